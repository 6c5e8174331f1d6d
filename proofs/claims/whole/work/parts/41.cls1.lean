/-! OnceLedger: decide, finish, raiseEpoch, firstToEnd -/
section C1
variable {d : Nat} {h : ix_H} {P cap tmo clk cut sy torn : Nat} {cl : Bool} {X : List En} {tE : En} {tp an : List Nat} {n nx : Nat} {ep tx bg ba lc de mq en : Nat → Nat} {ad : Nat → Int32} {la : List (Nat × Nat × Nat)} {T : TS}
theorem CE.ok (w : CE h P cap tmo clk cl cut X sy torn tE tp an T) : 1 ≤ P ∧ P ≤ 8 ∧ 100 ≤ cap ∧ cap ≤ 4000 ∧ 1 ≤ tmo ∧ tmo ≤ 1000 ∧ clk ≤ 1000000 ∧ cut < 2 ^ 30 ∧ sy ≤ X.length := by
  obtain ⟨n, ep, tx, bg, ba, ad, lc, de, mq, nx, la, en⟩ := T
  obtain ⟨pr, mk, w, hpr, hmk, hsy⟩ := w
  have := w.2.1
  unfold scOk at this
  simp only at this
  omega
theorem CE.cell (w : CE h P cap tmo clk cl cut X sy torn tE tp an (n, ep, tx, bg, ba, ad, lc, de, mq, nx, la, en)) {k : Nat} (hk : k < 32) : ∃ y, h.2.2 (64 + k) = pcell (m1 (ep k)) (m1 (tx k)) (m1 (bg k)) y (ad k) (nI (lc k)) (m1 (de k)) := by
  obtain ⟨pr, mk, w, hpr, hmk, hsy⟩ := w
  obtain ⟨q1, q2, q3, q4, q5, q6, q7⟩ := hpr k hk
  refine ⟨(pr k).2.2.2.1, ?_⟩
  rw [w.2.2.2.2.2.2.2.2.2.2.2.1 k hk, pcE, q1, q2, q3, q5, q6, q7]
theorem CE.pra (w : CE h P cap tmo clk cl cut X sy torn tE tp an T) : ∃ f, h.2.2 14 = .inl (.object RX2, 32, .inr (.inr (.inr (.inr f)))) ∧ ∀ i, i < 32 → f i = some (64 + i) := by
  obtain ⟨n, ep, tx, bg, ba, ad, lc, de, mq, nx, la, en⟩ := T
  obtain ⟨pr, mk, w, -⟩ := w
  exact w.2.2.2.2.2.2.2.2.1
theorem CE.lga (w : CE h P cap tmo clk cl cut X sy torn tE tp an T) : ∃ f, h.2.2 7 = .inl (.object RX1, 8, .inr (.inr (.inr (.inr f)))) ∧ ∀ i, i < 8 → f i = some (16 + 6 * i) := by
  obtain ⟨n, ep, tx, bg, ba, ad, lc, de, mq, nx, la, en⟩ := T
  obtain ⟨pr, mk, w, -⟩ := w
  exact w.2.2.2.2.2.1
theorem CE.obj (w : CE h P cap tmo clk cl cut X sy torn tE tp an (n, ep, tx, bg, ba, ad, lc, de, mq, nx, la, en)) : h.2.2 0 = .inr (4, [.ref 1, .ref 3, .ref 5, .ref 7, .ref 8, .ref 10, .ref 14, .ref 15, .int (nI P), .int (nI cap), .int (nI tmo), .int (nI clk), .int (b01 cl), .int (nI cut), .int (nI nx)]) := by
  obtain ⟨pr, mk, w, -⟩ := w
  exact w.1
theorem CE.log (w : CE h P cap tmo clk cl cut X sy torn tE tp an T) {p : Nat} (hp : p < P) : LogAt h (16 + 6 * p) (fl p X) (tnO P torn tE p) := by
  have hP := w.ok.2.1
  obtain ⟨n, ep, tx, bg, ba, ad, lc, de, mq, nx, la, en⟩ := T
  obtain ⟨pr, mk, w, -⟩ := w
  have := w.2.2.2.2.2.2.2.2.2.2.1 p (by omega)
  unfold lgO at this
  rwa [if_pos hp] at this
theorem c_raise {k : Nat} (hk : k < 32) (hv : pv P cap X) (hT : told P X = (n, ep, tx, bg, ba, ad, lc, de, mq, nx, la, en)) (hr : 16 * n + 16 ≤ 16000) (w : CE h P cap tmo clk cl cut X sy 0 tE tp an (n, ep, tx, bg, ba, ad, lc, de, mq, nx, la, en)) : ev (d + 5) n_X4_raiseEpoch [.ref 0, .int (nI k)] h (fun u => u.1 = none ∧ FS cC h u.2 ∧ CE u.2 P cap tmo clk cl cut (X ++ [(P, 0, k, ep k, 0, 0, 0, [])]) sy 0 tE tp an (n + 1, va_up ep k (ep k + 1), tx, bg, ba, ad, lc, de, mq, nx, la, en)) := by
  have hok := w.ok
  have hg : GT P cap X (n, ep, tx, bg, ba, ad, lc, de, mq, nx, la, en) := hT ▸ pv_all hv
  have hep := (hg.1.2.2.2.2.1 k hk).1
  obtain ⟨y, hc⟩ := w.cell hk
  obtain ⟨f, hf, hf'⟩ := w.pra
  have w1 := w.obj
  unfold pcell at hc
  refine ev_of q_X4_raiseEpoch (Nat.le_of_ble_eq_true rfl) ?_
  refine gs_n 1 a_X4_raiseEpoch_0 rfl ?_
  refine gs_k (nI 0) 2 a_X4_raiseEpoch_1 (by decide +kernel) rfl ?_
  refine gs_n 3 a_X4_raiseEpoch_2 rfl ?_
  refine gs_n 4 a_X4_raiseEpoch_3 rfl ?_
  refine gs_get 7 a_X4_raiseEpoch_4 f_4_42 (by first | assumption | exact hs_same _ _ _ | exact (hs_ne _ _ (by first | assumption | decide | omega)).trans (by first | assumption | exact hs_same _ _ _ | exact (hs_ne _ _ (by first | assumption | decide | omega)).trans (by first | assumption | exact hs_same _ _ _ | exact (hs_ne _ _ (by first | assumption | decide | omega)).trans (by first | assumption | exact hs_same _ _ _ | exact (hs_ne _ _ (by first | assumption | decide | omega)).trans (by first | assumption | exact hs_same _ _ _))))) rfl rfl ?_
  refine gs_n 8 a_X4_raiseEpoch_7 rfl ?_
  refine gs_aa k (64 + k) 9 a_X4_raiseEpoch_8 (by first | assumption | exact hs_same _ _ _ | exact (hs_ne _ _ (by first | assumption | decide | omega)).trans (by first | assumption | exact hs_same _ _ _ | exact (hs_ne _ _ (by first | assumption | decide | omega)).trans (by first | assumption | exact hs_same _ _ _ | exact (hs_ne _ _ (by first | assumption | decide | omega)).trans (by first | assumption | exact hs_same _ _ _ | exact (hs_ne _ _ (by first | assumption | decide | omega)).trans (by first | assumption | exact hs_same _ _ _))))) rfl (by omega) (by decide) (by simp) (hf' k hk) rfl ?_
  refine gs_get 12 a_X4_raiseEpoch_9 f_4_88 (by first | assumption | exact hs_same _ _ _ | exact (hs_ne _ _ (by first | assumption | decide | omega)).trans (by first | assumption | exact hs_same _ _ _ | exact (hs_ne _ _ (by first | assumption | decide | omega)).trans (by first | assumption | exact hs_same _ _ _ | exact (hs_ne _ _ (by first | assumption | decide | omega)).trans (by first | assumption | exact hs_same _ _ _ | exact (hs_ne _ _ (by first | assumption | decide | omega)).trans (by first | assumption | exact hs_same _ _ _))))) rfl rfl ?_
  refine gs_k (nI 1) 13 a_X4_raiseEpoch_12 (by decide +kernel) rfl ?_
  refine gs_n 14 a_X4_raiseEpoch_13 rfl ?_
  refine gs_k (nI 0) 15 a_X4_raiseEpoch_14 (by decide +kernel) rfl ?_
  refine gs_k (nI 0) 16 a_X4_raiseEpoch_15 (by decide +kernel) rfl ?_
  rw [show m1 (ep k) + nI 1 = nI (ep k) from by unfold m1; exact Int32.sub_add_cancel _ _]
  refine gs_cv 19 a_X4_raiseEpoch_16 k_4_101 q_X4_writeToBook (c_book 0 k (ep k) 0 0 hok.2.2.2.1 hok.2.1 (okE_book hok.2.1 (by omega) hk (by omega) (by omega) (by omega) (by omega)) hg hr (by omega) (by omega) w) rfl rfl rfl (by simp [Value.category]) (by first | assumption | exact hs_same _ _ _ | exact (hs_ne _ _ (by first | assumption | decide | omega)).trans (by first | assumption | exact hs_same _ _ _ | exact (hs_ne _ _ (by first | assumption | decide | omega)).trans (by first | assumption | exact hs_same _ _ _ | exact (hs_ne _ _ (by first | assumption | decide | omega)).trans (by first | assumption | exact hs_same _ _ _ | exact (hs_ne _ _ (by first | assumption | decide | omega)).trans (by first | assumption | exact hs_same _ _ _))))) rfl (fun v h2 hp => ?_)
  obtain ⟨e1, hF, w2⟩ := hp
  simp only at e1
  subst e1
  refine gs_vret a_X4_raiseEpoch_19 rfl ?_
  exact ⟨rfl, hF, w2⟩
theorem c_decide {k : Nat} (c : Bool) (hk : k < 32) (ht : tx k ≠ 0) (hd : de k = 0) (hv : pv P cap X) (hT : told P X = (n, ep, tx, bg, ba, ad, lc, de, mq, nx, la, en)) (w : CE h P cap tmo clk cl cut X sy 0 tE tp an (n, ep, tx, bg, ba, ad, lc, de, mq, nx, la, en)) : ev (d + 5) n_X4_decide [.ref 0, .int (nI k), .int (b01 c)] h (fun u => u.1 = none ∧ FS cC h u.2 ∧ CE u.2 P cap tmo clk cl cut (X ++ [(P, 4, k, ep k - 1, (if c then 1 else 0), tx k - 1, 0, [])]) sy 0 tE tp an (n + 1, ep, tx, bg, ba, ad, lc, va_up de k ((if c then 1 else 0) + 1), mq, nx, la, en)) := by
  have hok := w.ok
  have hg : GT P cap X (n, ep, tx, bg, ba, ad, lc, de, mq, nx, la, en) := hT ▸ pv_all hv
  have hr := hg.2.2.2.2.1
  obtain ⟨a1, a2, a3, a4, a5, a6, a7, a8⟩ := hg.1
  obtain ⟨b1, b2, b3, b4, b5, b6, b7⟩ := a5 k hk
  have hep0 := (b6 ht).1
  have hsm : 48 ≤ sm (res tx de) 32 := by
    have h1 := sm_diff (g := res tx de) (g' := va_up (res tx de) k 0) (k := k) 32 (fun i _ z => va_up_ne _ _ z) hk
    rw [va_up_self] at h1
    have : res tx de k = 48 := by unfold res; rw [if_neg ht, if_pos hd]
    omega
  obtain ⟨y, hc⟩ := w.cell hk
  rw [m1_p hep0, m1_p ht] at hc
  obtain ⟨f, hf, hf'⟩ := w.pra
  have w1 := w.obj
  unfold pcell at hc
  have fin : ∀ x, x = (if c then 1 else 0) → gs none (d + 4) mD_X4_decide (23, [(3, .ref (64 + k)), (0, .ref 0), (1, .int (nI k)), (2, .int (b01 c))], [.int (nI x), .int (nI (ep k - 1)), .int (nI k), .int (nI 4), .ref 0], h) (fun u => u.1 = none ∧ FS cC h u.2 ∧ CE u.2 P cap tmo clk cl cut (X ++ [(P, 4, k, ep k - 1, (if c then 1 else 0), tx k - 1, 0, [])]) sy 0 tE tp an (n + 1, ep, tx, bg, ba, ad, lc, va_up de k ((if c then 1 else 0) + 1), mq, nx, la, en)) := by
    intro x hx
    have hx1 : x ≤ 1 := by rw [hx]; split <;> omega
    refine gs_n 24 a_X4_decide_23 rfl ?_
    refine gs_get 27 a_X4_decide_24 f_4_205 (by first | assumption | exact hs_same _ _ _ | exact (hs_ne _ _ (by first | assumption | decide | omega)).trans (by first | assumption | exact hs_same _ _ _ | exact (hs_ne _ _ (by first | assumption | decide | omega)).trans (by first | assumption | exact hs_same _ _ _ | exact (hs_ne _ _ (by first | assumption | decide | omega)).trans (by first | assumption | exact hs_same _ _ _ | exact (hs_ne _ _ (by first | assumption | decide | omega)).trans (by first | assumption | exact hs_same _ _ _))))) rfl rfl ?_
    refine gs_cv 30 a_X4_decide_27 k_4_101 q_X4_writeToBook (c_book 4 k (ep k - 1) x (tx k - 1) hok.2.2.2.1 hok.2.1 (okE_book hok.2.1 (by omega) hk (by omega) (by omega) (by omega) (by omega)) hg (by show 16 * n + 16 ≤ 16000; omega) (by omega) (by omega) w) rfl rfl rfl (by simp [Value.category]) (by first | assumption | exact hs_same _ _ _ | exact (hs_ne _ _ (by first | assumption | decide | omega)).trans (by first | assumption | exact hs_same _ _ _ | exact (hs_ne _ _ (by first | assumption | decide | omega)).trans (by first | assumption | exact hs_same _ _ _ | exact (hs_ne _ _ (by first | assumption | decide | omega)).trans (by first | assumption | exact hs_same _ _ _ | exact (hs_ne _ _ (by first | assumption | decide | omega)).trans (by first | assumption | exact hs_same _ _ _))))) rfl (fun v h2 hp => ?_)
    obtain ⟨e1, hF, w2⟩ := hp
    simp only at e1
    subst e1
    refine gs_vret a_X4_decide_30 rfl ?_
    rw [← hx]
    exact ⟨rfl, hF, w2⟩
  refine ev_of q_X4_decide (Nat.le_of_ble_eq_true rfl) ?_
  refine gs_n 1 a_X4_decide_0 rfl ?_
  refine gs_get 4 a_X4_decide_1 f_4_42 (by first | assumption | exact hs_same _ _ _ | exact (hs_ne _ _ (by first | assumption | decide | omega)).trans (by first | assumption | exact hs_same _ _ _ | exact (hs_ne _ _ (by first | assumption | decide | omega)).trans (by first | assumption | exact hs_same _ _ _ | exact (hs_ne _ _ (by first | assumption | decide | omega)).trans (by first | assumption | exact hs_same _ _ _ | exact (hs_ne _ _ (by first | assumption | decide | omega)).trans (by first | assumption | exact hs_same _ _ _))))) rfl rfl ?_
  refine gs_n 5 a_X4_decide_4 rfl ?_
  refine gs_aa k (64 + k) 6 a_X4_decide_5 (by first | assumption | exact hs_same _ _ _ | exact (hs_ne _ _ (by first | assumption | decide | omega)).trans (by first | assumption | exact hs_same _ _ _ | exact (hs_ne _ _ (by first | assumption | decide | omega)).trans (by first | assumption | exact hs_same _ _ _ | exact (hs_ne _ _ (by first | assumption | decide | omega)).trans (by first | assumption | exact hs_same _ _ _ | exact (hs_ne _ _ (by first | assumption | decide | omega)).trans (by first | assumption | exact hs_same _ _ _))))) rfl (by omega) (by decide) (by simp) (hf' k hk) rfl ?_
  refine gs_n 7 a_X4_decide_6 rfl ?_
  refine gs_n 8 a_X4_decide_7 rfl ?_
  refine gs_k (nI 4) 9 a_X4_decide_8 (by decide +kernel) rfl ?_
  refine gs_n 10 a_X4_decide_9 rfl ?_
  refine gs_n 11 a_X4_decide_10 rfl ?_
  refine gs_get 14 a_X4_decide_11 f_4_88 (by first | assumption | exact hs_same _ _ _ | exact (hs_ne _ _ (by first | assumption | decide | omega)).trans (by first | assumption | exact hs_same _ _ _ | exact (hs_ne _ _ (by first | assumption | decide | omega)).trans (by first | assumption | exact hs_same _ _ _ | exact (hs_ne _ _ (by first | assumption | decide | omega)).trans (by first | assumption | exact hs_same _ _ _ | exact (hs_ne _ _ (by first | assumption | decide | omega)).trans (by first | assumption | exact hs_same _ _ _))))) rfl rfl ?_
  refine gs_n 15 a_X4_decide_14 rfl ?_
  refine gs_if 22 18 a_X4_decide_15 rfl rfl (fun c15 => ?_) (fun c15 => ?_)
  · have c15 := (b01_0 _).mp c15
    refine gs_k (nI 0) 23 a_X4_decide_22 (by decide +kernel) rfl ?_
    exact fin 0 (by rw [c15]; rfl)
  · have c15 := (b01_ne _).mp c15
    refine gs_k (nI 1) 19 a_X4_decide_18 (by decide +kernel) rfl ?_
    refine gs_n 23 a_X4_decide_19 rfl ?_
    exact fin 1 (by rw [c15]; rfl)
theorem l_finish {k : Nat} (hk : k < 32) (ht : tx k ≠ 0) (hd : de k ≠ 0) : ∀ (j p : Nat) (Y : List En) (h : ix_H), p + j = P → pv P cap Y → told P Y = (n, ep, tx, bg, ba, ad, lc, de, mq, nx, la, en) → CE h P cap tmo clk cl cut Y sy 0 tE tp an (n, ep, tx, bg, ba, ad, lc, de, mq, nx, la, en) →
    gs none (d + 5) mD_X4_finish (24, [(4, .int (nI p)), (0, .ref 0), (1, .int (nI k)), (2, .ref (64 + k)), (3, .int (nI (4 - de k)))], [], h) (fun u => u.1 = none ∧ FS cC h u.2 ∧ CE u.2 P cap tmo clk cl cut (finR (ep k - 1) (tx k - 1) (4 - de k) k (ad k) p j Y ++ [(P, 5, k, ep k - 1, 0, tx k - 1, 0, [])]) sy 0 tE tp an (tell (n, ep, tx, bg, ba, ad, lc, de, mq, nx, la, en) (P, 5, k, ep k - 1, 0, tx k - 1, 0, []))) := by
  intro j
  induction j with
  | zero =>
    intro p Y h hp hv hT w
    have hok := w.ok
    have hg : GT P cap Y (n, ep, tx, bg, ba, ad, lc, de, mq, nx, la, en) := hT ▸ pv_all hv
    have hr := hg.2.2.2.2.1
    obtain ⟨a1, a2, a3, a4, a5, a6, a7, a8⟩ := hg.1
    obtain ⟨b1, b2, b3, b4, b5, b6, b7⟩ := a5 k hk
    have hep0 := (b6 ht).1
    have hsm : 32 ≤ sm (res tx de) 32 := by
      have h1 := sm_diff (g := res tx de) (g' := va_up (res tx de) k 0) (k := k) 32 (fun i _ z => va_up_ne _ _ z) hk
      rw [va_up_self] at h1
      have : res tx de k = 32 := by unfold res; rw [if_neg ht, if_neg hd]
      omega
    obtain ⟨y, hc⟩ := w.cell hk
    rw [m1_p hep0, m1_p ht] at hc
    have w1 := w.obj
    unfold pcell at hc
    refine gs_n 26 a_X4_finish_24 rfl ?_
    refine gs_n 27 a_X4_finish_26 rfl ?_
    refine gs_get 30 a_X4_finish_27 f_4_146 (by first | assumption | exact hs_same _ _ _ | exact (hs_ne _ _ (by first | assumption | decide | omega)).trans (by first | assumption | exact hs_same _ _ _ | exact (hs_ne _ _ (by first | assumption | decide | omega)).trans (by first | assumption | exact hs_same _ _ _ | exact (hs_ne _ _ (by first | assumption | decide | omega)).trans (by first | assumption | exact hs_same _ _ _ | exact (hs_ne _ _ (by first | assumption | decide | omega)).trans (by first | assumption | exact hs_same _ _ _))))) rfl rfl ?_
    refine gs_ic 86 33 a_X4_finish_30 rfl rfl (fun c30 => ?_) (fun c30 => ?_)
    · refine gs_n 87 a_X4_finish_86 rfl ?_
      refine gs_k (nI 5) 88 a_X4_finish_87 (by decide +kernel) rfl ?_
      refine gs_n 89 a_X4_finish_88 rfl ?_
      refine gs_n 90 a_X4_finish_89 rfl ?_
      refine gs_get 93 a_X4_finish_90 f_4_88 (by first | assumption | exact hs_same _ _ _ | exact (hs_ne _ _ (by first | assumption | decide | omega)).trans (by first | assumption | exact hs_same _ _ _ | exact (hs_ne _ _ (by first | assumption | decide | omega)).trans (by first | assumption | exact hs_same _ _ _ | exact (hs_ne _ _ (by first | assumption | decide | omega)).trans (by first | assumption | exact hs_same _ _ _ | exact (hs_ne _ _ (by first | assumption | decide | omega)).trans (by first | assumption | exact hs_same _ _ _))))) rfl rfl ?_
      refine gs_k (nI 0) 94 a_X4_finish_93 (by decide +kernel) rfl ?_
      refine gs_n 95 a_X4_finish_94 rfl ?_
      refine gs_get 98 a_X4_finish_95 f_4_205 (by first | assumption | exact hs_same _ _ _ | exact (hs_ne _ _ (by first | assumption | decide | omega)).trans (by first | assumption | exact hs_same _ _ _ | exact (hs_ne _ _ (by first | assumption | decide | omega)).trans (by first | assumption | exact hs_same _ _ _ | exact (hs_ne _ _ (by first | assumption | decide | omega)).trans (by first | assumption | exact hs_same _ _ _ | exact (hs_ne _ _ (by first | assumption | decide | omega)).trans (by first | assumption | exact hs_same _ _ _))))) rfl rfl ?_
      refine gs_cv 101 a_X4_finish_98 k_4_101 q_X4_writeToBook (c_book 5 k (ep k - 1) 0 (tx k - 1) hok.2.2.2.1 hok.2.1 (okE_book hok.2.1 (by omega) hk (by omega) (by omega) (by omega) (by omega)) hg (by show 16 * n + 16 ≤ 16000; omega) (by omega) (fun _ => ht) w) rfl rfl rfl (by simp [Value.category]) (by first | assumption | exact hs_same _ _ _ | exact (hs_ne _ _ (by first | assumption | decide | omega)).trans (by first | assumption | exact hs_same _ _ _ | exact (hs_ne _ _ (by first | assumption | decide | omega)).trans (by first | assumption | exact hs_same _ _ _ | exact (hs_ne _ _ (by first | assumption | decide | omega)).trans (by first | assumption | exact hs_same _ _ _ | exact (hs_ne _ _ (by first | assumption | decide | omega)).trans (by first | assumption | exact hs_same _ _ _))))) rfl (fun v h2 hp => ?_)
      obtain ⟨e1, hF, w2⟩ := hp
      simp only at e1
      subst e1
      refine gs_vret a_X4_finish_101 rfl ?_
      exact ⟨rfl, hF, w2⟩
    · exact absurd (nI_le (by omega) (by omega)) c30
  | succ j ih =>
    intro p Y h hp hv hT w
    have hok := w.ok
    have hpP : p < P := by omega
    have hg : GT P cap Y (n, ep, tx, bg, ba, ad, lc, de, mq, nx, la, en) := hT ▸ pv_all hv
    have hrl := hg.2.2.2.2.2 p hpP
    have hr := hg.2.2.2.2.1
    obtain ⟨a1, a2, a3, a4, a5, a6, a7, a8⟩ := hg.1
    obtain ⟨b1, b2, b3, b4, b5, b6, b7⟩ := a5 k hk
    have hep0 := (b6 ht).1
    obtain ⟨y, hc⟩ := w.cell hk
    rw [m1_p hep0, m1_p ht] at hc
    have w1 := w.obj
    obtain ⟨f, hf, hf'⟩ := w.lga
    have hl := w.log hpP
    have hl1 := hl.1
    have hc0 := hc
    unfold pcell at hc
    have skip : (hasB (ad k) p && !hEnd p Y (tx k - 1)) = false → gs none (d + 5) mD_X4_finish (80, [(4, .int (nI p)), (0, .ref 0), (1, .int (nI k)), (2, .ref (64 + k)), (3, .int (nI (4 - de k)))], [], h) (fun u => u.1 = none ∧ FS cC h u.2 ∧ CE u.2 P cap tmo clk cl cut (finR (ep k - 1) (tx k - 1) (4 - de k) k (ad k) p (j + 1) Y ++ [(P, 5, k, ep k - 1, 0, tx k - 1, 0, [])]) sy 0 tE tp an (tell (n, ep, tx, bg, ba, ad, lc, de, mq, nx, la, en) (P, 5, k, ep k - 1, 0, tx k - 1, 0, []))) := by
      intro hs
      first | refine gs_inc _ 83 a_X4_finish_80 rfl (Nat.le_of_ble_eq_true rfl) rfl ?_ | refine gs_n 83 a_X4_finish_80 rfl ?_
      refine gs_n 24 a_X4_finish_83 rfl ?_
      refine gs_w [(4, .int (nI (p + 1))), (0, .ref 0), (1, .int (nI k)), (2, .ref (64 + k)), (3, .int (nI (4 - de k)))] (by simp [ix_nd]) (by intro x hx; simp only [List.mem_cons, List.not_mem_nil, or_false] at hx; rcases hx with rfl | rfl | rfl | rfl | rfl <;> rfl) ?_
      simp only [finR]
      rw [hs, if_neg (by simp)]
      exact ih (p + 1) Y h (by omega) hv hT w
    refine gs_n 26 a_X4_finish_24 rfl ?_
    refine gs_n 27 a_X4_finish_26 rfl ?_
    refine gs_get 30 a_X4_finish_27 f_4_146 (by first | assumption | exact hs_same _ _ _ | exact (hs_ne _ _ (by first | assumption | decide | omega)).trans (by first | assumption | exact hs_same _ _ _ | exact (hs_ne _ _ (by first | assumption | decide | omega)).trans (by first | assumption | exact hs_same _ _ _ | exact (hs_ne _ _ (by first | assumption | decide | omega)).trans (by first | assumption | exact hs_same _ _ _ | exact (hs_ne _ _ (by first | assumption | decide | omega)).trans (by first | assumption | exact hs_same _ _ _))))) rfl rfl ?_
    refine gs_ic 86 33 a_X4_finish_30 rfl rfl (fun c30 => ?_) (fun c30 => ?_)
    · exact absurd c30 (nI_ge (by omega) (by omega))
    · refine gs_n 34 a_X4_finish_33 rfl ?_
      refine gs_n 36 a_X4_finish_34 rfl ?_
      refine gs_cv 39 a_X4_finish_36 k_4_243 q_X2_hasAdded (e_hasAdded (nI p) hc0) rfl rfl rfl (by simp [Value.category]) (by first | assumption | exact hs_same _ _ _ | exact (hs_ne _ _ (by first | assumption | decide | omega)).trans (by first | assumption | exact hs_same _ _ _ | exact (hs_ne _ _ (by first | assumption | decide | omega)).trans (by first | assumption | exact hs_same _ _ _ | exact (hs_ne _ _ (by first | assumption | decide | omega)).trans (by first | assumption | exact hs_same _ _ _ | exact (hs_ne _ _ (by first | assumption | decide | omega)).trans (by first | assumption | exact hs_same _ _ _))))) rfl (fun v h1 hp => ?_)
      cases hp
      rw [mbit_b01]
      refine gs_if 80 42 a_X4_finish_39 rfl rfl (fun c39 => ?_) (fun c39 => ?_)
      · have c39 := (b01_0 _).mp c39
        exact skip (by rw [c39]; rfl)
      · have c39 := (b01_ne _).mp c39
        refine gs_n 43 a_X4_finish_42 rfl ?_
        refine gs_get 46 a_X4_finish_43 f_4_26 (by first | assumption | exact hs_same _ _ _ | exact (hs_ne _ _ (by first | assumption | decide | omega)).trans (by first | assumption | exact hs_same _ _ _ | exact (hs_ne _ _ (by first | assumption | decide | omega)).trans (by first | assumption | exact hs_same _ _ _ | exact (hs_ne _ _ (by first | assumption | decide | omega)).trans (by first | assumption | exact hs_same _ _ _ | exact (hs_ne _ _ (by first | assumption | decide | omega)).trans (by first | assumption | exact hs_same _ _ _))))) rfl rfl ?_
        refine gs_n 48 a_X4_finish_46 rfl ?_
        refine gs_aa p (16 + 6 * p) 49 a_X4_finish_48 (by first | assumption | exact hs_same _ _ _ | exact (hs_ne _ _ (by first | assumption | decide | omega)).trans (by first | assumption | exact hs_same _ _ _ | exact (hs_ne _ _ (by first | assumption | decide | omega)).trans (by first | assumption | exact hs_same _ _ _ | exact (hs_ne _ _ (by first | assumption | decide | omega)).trans (by first | assumption | exact hs_same _ _ _ | exact (hs_ne _ _ (by first | assumption | decide | omega)).trans (by first | assumption | exact hs_same _ _ _))))) rfl (by omega) (by decide) (by simp) (hf' p (by omega)) rfl ?_
        refine gs_n 50 a_X4_finish_49 rfl ?_
        refine gs_get 53 a_X4_finish_50 f_4_205 (by first | assumption | exact hs_same _ _ _ | exact (hs_ne _ _ (by first | assumption | decide | omega)).trans (by first | assumption | exact hs_same _ _ _ | exact (hs_ne _ _ (by first | assumption | decide | omega)).trans (by first | assumption | exact hs_same _ _ _ | exact (hs_ne _ _ (by first | assumption | decide | omega)).trans (by first | assumption | exact hs_same _ _ _ | exact (hs_ne _ _ (by first | assumption | decide | omega)).trans (by first | assumption | exact hs_same _ _ _))))) rfl rfl ?_
        refine gs_cv 56 a_X4_finish_53 k_4_289 q_X1_hasEndOf (e_hasEnd (tx k - 1) (by omega) hl) rfl rfl rfl (by simp [Value.category]) (by first | assumption | exact hs_same _ _ _ | exact (hs_ne _ _ (by first | assumption | decide | omega)).trans (by first | assumption | exact hs_same _ _ _ | exact (hs_ne _ _ (by first | assumption | decide | omega)).trans (by first | assumption | exact hs_same _ _ _ | exact (hs_ne _ _ (by first | assumption | decide | omega)).trans (by first | assumption | exact hs_same _ _ _ | exact (hs_ne _ _ (by first | assumption | decide | omega)).trans (by first | assumption | exact hs_same _ _ _))))) rfl (fun v h1 hp => ?_)
        cases hp
        refine gs_if 80 59 a_X4_finish_56 rfl rfl (fun c56 => ?_) (fun c56 => ?_)
        · have c56 : hEnd p Y (tx k - 1) = true := (b01_ne _).mp c56
          exact skip (by rw [c56]; simp)
        · have c56 : hEnd p Y (tx k - 1) = false := by
            have c56 : b01 ((fl p Y).any (endOf (tx k - 1))) = 0 := Classical.byContradiction c56
            exact (b01_0 _).mp c56
          have hdue : dueE p Y tx ad k = true := by unfold dueE; rw [c39, c56]; rfl
          have hcnt : 1 ≤ cnt (dueE p Y tx ad) 32 := by
            have h1 := cnt_diff (f := dueE p Y tx ad) (f' := fun i => if i = k then false else dueE p Y tx ad i) (k := k) (n := 32) (fun i _ z => by simp [z]) hk
            rw [hdue] at h1
            simp at h1
            omega
          refine gs_n 60 a_X4_finish_59 rfl ?_
          refine gs_n 62 a_X4_finish_60 rfl ?_
          refine gs_n 63 a_X4_finish_62 rfl ?_
          refine gs_n 64 a_X4_finish_63 rfl ?_
          refine gs_n 65 a_X4_finish_64 rfl ?_
          refine gs_get 68 a_X4_finish_65 f_4_88 (by first | assumption | exact hs_same _ _ _ | exact (hs_ne _ _ (by first | assumption | decide | omega)).trans (by first | assumption | exact hs_same _ _ _ | exact (hs_ne _ _ (by first | assumption | decide | omega)).trans (by first | assumption | exact hs_same _ _ _ | exact (hs_ne _ _ (by first | assumption | decide | omega)).trans (by first | assumption | exact hs_same _ _ _ | exact (hs_ne _ _ (by first | assumption | decide | omega)).trans (by first | assumption | exact hs_same _ _ _))))) rfl rfl ?_
          refine gs_n 69 a_X4_finish_68 rfl ?_
          refine gs_get 72 a_X4_finish_69 f_4_205 (by first | assumption | exact hs_same _ _ _ | exact (hs_ne _ _ (by first | assumption | decide | omega)).trans (by first | assumption | exact hs_same _ _ _ | exact (hs_ne _ _ (by first | assumption | decide | omega)).trans (by first | assumption | exact hs_same _ _ _ | exact (hs_ne _ _ (by first | assumption | decide | omega)).trans (by first | assumption | exact hs_same _ _ _ | exact (hs_ne _ _ (by first | assumption | decide | omega)).trans (by first | assumption | exact hs_same _ _ _))))) rfl rfl ?_
          refine gs_n 73 a_X4_finish_72 rfl ?_
          refine gs_get 76 a_X4_finish_73 f_4_21 (by first | assumption | exact hs_same _ _ _ | exact (hs_ne _ _ (by first | assumption | decide | omega)).trans (by first | assumption | exact hs_same _ _ _ | exact (hs_ne _ _ (by first | assumption | decide | omega)).trans (by first | assumption | exact hs_same _ _ _ | exact (hs_ne _ _ (by first | assumption | decide | omega)).trans (by first | assumption | exact hs_same _ _ _ | exact (hs_ne _ _ (by first | assumption | decide | omega)).trans (by first | assumption | exact hs_same _ _ _))))) rfl rfl ?_
          refine gs_cv 79 a_X4_finish_76 k_4_250 q_X4_writeToLog (c_log (r := 5) (a' := 6) (N := 0) (pay := []) p (4 - de k) k (ep k - 1) (tx k - 1) 0 hok.2.2.2.1 hok.2.1 hpP (Or.inr ⟨rfl, rfl, rfl, rfl⟩) (okE_part (pl := []) hok.2.1 hpP (by omega) hk (by omega) (by omega) (by simp) (by omega) (by simp)) hg (by simp only [List.length_nil]; omega) w) rfl rfl rfl (by simp [Value.category]) (by first | assumption | exact hs_same _ _ _ | exact (hs_ne _ _ (by first | assumption | decide | omega)).trans (by first | assumption | exact hs_same _ _ _ | exact (hs_ne _ _ (by first | assumption | decide | omega)).trans (by first | assumption | exact hs_same _ _ _ | exact (hs_ne _ _ (by first | assumption | decide | omega)).trans (by first | assumption | exact hs_same _ _ _ | exact (hs_ne _ _ (by first | assumption | decide | omega)).trans (by first | assumption | exact hs_same _ _ _))))) rfl (fun v h2 hp => ?_)
          obtain ⟨e1, hF, w2⟩ := hp
          simp only at e1
          subst e1
          refine gs_n 80 a_X4_finish_79 rfl ?_
          first | refine gs_inc _ 83 a_X4_finish_80 rfl (Nat.le_of_ble_eq_true rfl) rfl ?_ | refine gs_n 83 a_X4_finish_80 rfl ?_
          refine gs_n 24 a_X4_finish_83 rfl ?_
          refine gs_w [(4, .int (nI (p + 1))), (0, .ref 0), (1, .int (nI k)), (2, .ref (64 + k)), (3, .int (nI (4 - de k)))] (by simp [ix_nd]) (by intro x hx; simp only [List.mem_cons, List.not_mem_nil, or_false] at hx; rcases hx with rfl | rfl | rfl | rfl | rfl <;> rfl) ?_
          have hpe := pv_end hok.2.1 hv hT hk hpP ht hd c39 c56
          simp only [finR]
          rw [c39, c56, if_pos (by simp)]
          refine gs_post (ih (p + 1) _ h2 (by omega) hpe.1 hpe.2 w2) ?_
          rintro u ⟨e1, hF2, w3⟩
          exact ⟨e1, hF.trans hF2, w3⟩
theorem c_finish {k : Nat} (hk : k < 32) (ht : tx k ≠ 0) (hd : de k ≠ 0) (hv : pv P cap X) (hT : told P X = (n, ep, tx, bg, ba, ad, lc, de, mq, nx, la, en)) (w : CE h P cap tmo clk cl cut X sy 0 tE tp an (n, ep, tx, bg, ba, ad, lc, de, mq, nx, la, en)) : ev (d + 6) n_X4_finish [.ref 0, .int (nI k)] h (fun u => u.1 = none ∧ FS cC h u.2 ∧ CE u.2 P cap tmo clk cl cut (finR (ep k - 1) (tx k - 1) (4 - de k) k (ad k) 0 P X ++ [(P, 5, k, ep k - 1, 0, tx k - 1, 0, [])]) sy 0 tE tp an (tell (n, ep, tx, bg, ba, ad, lc, de, mq, nx, la, en) (P, 5, k, ep k - 1, 0, tx k - 1, 0, []))) := by
  have hg : GT P cap X (n, ep, tx, bg, ba, ad, lc, de, mq, nx, la, en) := hT ▸ pv_all hv
  have hd2 := (hg.1.2.2.2.2.1 k hk).2.2.1
  obtain ⟨y, hc⟩ := w.cell hk
  obtain ⟨f, hf, hf'⟩ := w.pra
  have w1 := w.obj
  unfold pcell at hc
  refine ev_of q_X4_finish (Nat.le_of_ble_eq_true rfl) ?_
  refine gs_n 1 a_X4_finish_0 rfl ?_
  refine gs_get 4 a_X4_finish_1 f_4_42 (by first | assumption | exact hs_same _ _ _ | exact (hs_ne _ _ (by first | assumption | decide | omega)).trans (by first | assumption | exact hs_same _ _ _ | exact (hs_ne _ _ (by first | assumption | decide | omega)).trans (by first | assumption | exact hs_same _ _ _ | exact (hs_ne _ _ (by first | assumption | decide | omega)).trans (by first | assumption | exact hs_same _ _ _ | exact (hs_ne _ _ (by first | assumption | decide | omega)).trans (by first | assumption | exact hs_same _ _ _))))) rfl rfl ?_
  refine gs_n 5 a_X4_finish_4 rfl ?_
  refine gs_aa k (64 + k) 6 a_X4_finish_5 (by first | assumption | exact hs_same _ _ _ | exact (hs_ne _ _ (by first | assumption | decide | omega)).trans (by first | assumption | exact hs_same _ _ _ | exact (hs_ne _ _ (by first | assumption | decide | omega)).trans (by first | assumption | exact hs_same _ _ _ | exact (hs_ne _ _ (by first | assumption | decide | omega)).trans (by first | assumption | exact hs_same _ _ _ | exact (hs_ne _ _ (by first | assumption | decide | omega)).trans (by first | assumption | exact hs_same _ _ _))))) rfl (by omega) (by decide) (by simp) (hf' k hk) rfl ?_
  refine gs_n 7 a_X4_finish_6 rfl ?_
  refine gs_n 8 a_X4_finish_7 rfl ?_
  refine gs_get 11 a_X4_finish_8 f_4_274 (by first | assumption | exact hs_same _ _ _ | exact (hs_ne _ _ (by first | assumption | decide | omega)).trans (by first | assumption | exact hs_same _ _ _ | exact (hs_ne _ _ (by first | assumption | decide | omega)).trans (by first | assumption | exact hs_same _ _ _ | exact (hs_ne _ _ (by first | assumption | decide | omega)).trans (by first | assumption | exact hs_same _ _ _ | exact (hs_ne _ _ (by first | assumption | decide | omega)).trans (by first | assumption | exact hs_same _ _ _))))) rfl rfl ?_
  refine gs_k (nI 1) 12 a_X4_finish_11 (by decide +kernel) rfl ?_
  refine gs_ic 19 15 a_X4_finish_12 rfl rfl (fun c12 => ?_) (fun c12 => ?_)
  · have c12 : ¬ m1 (de k) = nI 1 := c12
    rw [m1_nI (by omega) (by omega)] at c12
    refine gs_k (nI 3) 20 a_X4_finish_19 (by decide +kernel) rfl ?_
    refine gs_n 21 a_X4_finish_20 rfl ?_
    refine gs_k (nI 0) 22 a_X4_finish_21 (by decide +kernel) rfl ?_
    refine gs_n 24 a_X4_finish_22 rfl ?_
    refine gs_w [(4, .int (nI 0)), (0, .ref 0), (1, .int (nI k)), (2, .ref (64 + k)), (3, .int (nI 3))] (by simp [ix_nd]) (by intro x hx; simp only [List.mem_cons, List.not_mem_nil, or_false] at hx; rcases hx with rfl | rfl | rfl | rfl | rfl <;> rfl) ?_
    rw [show nI 3 = nI (4 - de k) by congr 1; omega]
    exact l_finish hk ht hd P 0 X h (by omega) hv hT w
  · have c12 : m1 (de k) = nI 1 := Classical.byContradiction c12
    rw [m1_nI (by omega) (by omega)] at c12
    refine gs_k (nI 2) 16 a_X4_finish_15 (by decide +kernel) rfl ?_
    refine gs_n 20 a_X4_finish_16 rfl ?_
    refine gs_n 21 a_X4_finish_20 rfl ?_
    refine gs_k (nI 0) 22 a_X4_finish_21 (by decide +kernel) rfl ?_
    refine gs_n 24 a_X4_finish_22 rfl ?_
    refine gs_w [(4, .int (nI 0)), (0, .ref 0), (1, .int (nI k)), (2, .ref (64 + k)), (3, .int (nI 2))] (by simp [ix_nd]) (by intro x hx; simp only [List.mem_cons, List.not_mem_nil, or_false] at hx; rcases hx with rfl | rfl | rfl | rfl | rfl <;> rfl) ?_
    rw [show nI 2 = nI (4 - de k) by congr 1; omega]
    exact l_finish hk ht hd P 0 X h (by omega) hv hT w
end C1
