/-! OnceLedger: register, begin, end, later, mark, marked, tick, sync, answer -/
section C5
variable {d : Nat} {h : ix_H} {P cap tmo clk cut sy torn : Nat} {cl : Bool} {X : List En} {tE : En} {tp an : List Nat}
theorem CE.obj' {T : TS} (w : CE h P cap tmo clk cl cut X sy torn tE tp an T) : h.2.2 0 = .inr (4, [.ref 1, .ref 3, .ref 5, .ref 7, .ref 8, .ref 10, .ref 14, .ref 15, .int (nI P), .int (nI cap), .int (nI tmo), .int (nI clk), .int (b01 cl), .int (nI cut), .int (nI T.2.2.2.2.2.2.2.2.2.1)]) := by
  obtain ⟨n, ep, tx, bg, ba, ad, lc, de, mq, nx, la, en⟩ := T
  exact w.obj
theorem CE.cell' {T : TS} (w : CE h P cap tmo clk cl cut X sy torn tE tp an T) {k : Nat} (hk : k < 32) : ∃ y, h.2.2 (64 + k) = pcell (m1 (T.2.1 k)) (m1 (T.2.2.1 k)) (m1 (T.2.2.2.1 k)) y (T.2.2.2.2.2.1 k) (nI (T.2.2.2.2.2.2.1 k)) (m1 (T.2.2.2.2.2.2.2.1 k)) := by
  obtain ⟨n, ep, tx, bg, ba, ad, lc, de, mq, nx, la, en⟩ := T
  exact w.cell hk
theorem c_register (x : Int32) (hs : SI (P, cap, tmo, clk, cl, cut, X, sy, torn, tE, tp, an)) (w : CS h (P, cap, tmo, clk, cl, cut, X, sy, torn, tE, tp, an)) : ev (d + 7) n_X4_register [.ref 0, .int x] h (fun u => u.1 = some (.int (F_register (P, cap, tmo, clk, cl, cut, X, sy, torn, tE, tp, an) x).1) ∧ FS cC h u.2 ∧ CS u.2 (F_register (P, cap, tmo, clk, cl, cut, X, sy, torn, tE, tp, an) x).2) := by
  obtain ⟨s1, s2, s3, s4, s5, s6, s7, s8, s9, hv, s11, -⟩ := hs
  have w' : CE h P cap tmo clk cl cut X sy torn tE tp an (tS cl P X) := w
  have w1 := w'.obj'
  simp only [F_register]
  refine ev_of q_X4_register (Nat.le_of_ble_eq_true rfl) ?_
  refine gs_n 1 a_X4_register_0 rfl ?_
  refine gs_get 4 a_X4_register_1 f_4_63 (by first | assumption | exact hs_same _ _ _ | exact (hs_ne _ _ (by first | assumption | decide | omega)).trans (by first | assumption | exact hs_same _ _ _ | exact (hs_ne _ _ (by first | assumption | decide | omega)).trans (by first | assumption | exact hs_same _ _ _ | exact (hs_ne _ _ (by first | assumption | decide | omega)).trans (by first | assumption | exact hs_same _ _ _ | exact (hs_ne _ _ (by first | assumption | decide | omega)).trans (by first | assumption | exact hs_same _ _ _))))) rfl rfl ?_
  refine gs_if 9 7 a_X4_register_4 rfl rfl (fun c4 => ?_) (fun c4 => ?_)
  · have c4 := (b01_0 _).mp c4
    subst c4
    obtain ⟨rfl, hnd⟩ := s11 rfl
    rw [tS_f] at w' w1
    simp only [Bool.false_eq_true, if_false]
    refine gs_n 10 a_X4_register_9 rfl ?_
    refine gs_n 11 a_X4_register_10 rfl ?_
    refine gs_cv 14 a_X4_register_11 k_4_67 q_X4_isKey (e_isKey x) rfl rfl rfl (by simp [Value.category]) (by first | assumption | exact hs_same _ _ _ | exact (hs_ne _ _ (by first | assumption | decide | omega)).trans (by first | assumption | exact hs_same _ _ _ | exact (hs_ne _ _ (by first | assumption | decide | omega)).trans (by first | assumption | exact hs_same _ _ _ | exact (hs_ne _ _ (by first | assumption | decide | omega)).trans (by first | assumption | exact hs_same _ _ _ | exact (hs_ne _ _ (by first | assumption | decide | omega)).trans (by first | assumption | exact hs_same _ _ _))))) rfl (fun v h1 hp => ?_)
    cases hp
    refine gs_if 20 17 a_X4_register_14 rfl rfl (fun c14 => ?_) (fun c14 => ?_)
    · have c14 := (b01_ne _).mp c14
      rw [if_neg (by rw [c14]; simp)]
      obtain ⟨hk, hx⟩ := isK_kn c14
      generalize hkk : kn x = k at *
      subst hx
      obtain ⟨y, hc⟩ := w'.cell' hk
      obtain ⟨f, hf, hf'⟩ := w'.pra
      have hTb := (T_b hv false k hk).2.1
      rw [tS_f] at hTb
      refine gs_n 21 a_X4_register_20 rfl ?_
      refine gs_get 24 a_X4_register_21 f_4_42 (by first | assumption | exact hs_same _ _ _ | exact (hs_ne _ _ (by first | assumption | decide | omega)).trans (by first | assumption | exact hs_same _ _ _ | exact (hs_ne _ _ (by first | assumption | decide | omega)).trans (by first | assumption | exact hs_same _ _ _ | exact (hs_ne _ _ (by first | assumption | decide | omega)).trans (by first | assumption | exact hs_same _ _ _ | exact (hs_ne _ _ (by first | assumption | decide | omega)).trans (by first | assumption | exact hs_same _ _ _))))) rfl rfl ?_
      refine gs_n 25 a_X4_register_24 rfl ?_
      refine gs_aa k (64 + k) 26 a_X4_register_25 (by first | assumption | exact hs_same _ _ _ | exact (hs_ne _ _ (by first | assumption | decide | omega)).trans (by first | assumption | exact hs_same _ _ _ | exact (hs_ne _ _ (by first | assumption | decide | omega)).trans (by first | assumption | exact hs_same _ _ _ | exact (hs_ne _ _ (by first | assumption | decide | omega)).trans (by first | assumption | exact hs_same _ _ _ | exact (hs_ne _ _ (by first | assumption | decide | omega)).trans (by first | assumption | exact hs_same _ _ _))))) rfl (by omega) (by decide) (by simp) (hf' k hk) rfl ?_
      refine gs_cv 29 a_X4_register_26 k_4_71 q_X2_isOpen (e_isOpen hc) rfl rfl rfl (by simp [Value.category]) (by first | assumption | exact hs_same _ _ _ | exact (hs_ne _ _ (by first | assumption | decide | omega)).trans (by first | assumption | exact hs_same _ _ _ | exact (hs_ne _ _ (by first | assumption | decide | omega)).trans (by first | assumption | exact hs_same _ _ _ | exact (hs_ne _ _ (by first | assumption | decide | omega)).trans (by first | assumption | exact hs_same _ _ _ | exact (hs_ne _ _ (by first | assumption | decide | omega)).trans (by first | assumption | exact hs_same _ _ _))))) rfl (fun v h1 hp => ?_)
      cases hp
      have last : ∀ (Y : List En) (h2 : ix_H), FS cC h h2 → pv P cap Y → (told P Y).2.2.1 k = 0 → (told P Y).2.1 k = (told P X).2.1 k → 16 * (told P Y).1 + 16 + sm (res (told P Y).2.2.1 (told P Y).2.2.2.2.2.2.2.1) 32 ≤ 16000 → CE h2 P cap tmo clk false cut Y sy 0 tE tp an (told P Y) → gs none (d + 6) mD_X4_register (57, [(0, .ref 0), (1, .int (nI k))], [], h2) (fun u => u.1 = some (.int (nI ((told P X).2.1 k))) ∧ FS cC h u.2 ∧ CS u.2 (P, cap, tmo, clk, false, cut, regX P Y k, sy, 0, tE, tp, an)) := by
        intro Y h2 hF2 hv2 ht2 he2 hr2 w2
        have k1 := w2.obj'
        refine gs_n 58 a_X4_register_57 rfl ?_
        refine gs_n 59 a_X4_register_58 rfl ?_
        refine gs_cv 62 a_X4_register_59 k_4_85 q_X4_raiseEpoch (c_regX hk hv2 ht2 hr2 w2) rfl rfl rfl (by simp [Value.category]) (by first | assumption | exact hs_same _ _ _ | exact (hs_ne _ _ (by first | assumption | decide | omega)).trans (by first | assumption | exact hs_same _ _ _ | exact (hs_ne _ _ (by first | assumption | decide | omega)).trans (by first | assumption | exact hs_same _ _ _ | exact (hs_ne _ _ (by first | assumption | decide | omega)).trans (by first | assumption | exact hs_same _ _ _ | exact (hs_ne _ _ (by first | assumption | decide | omega)).trans (by first | assumption | exact hs_same _ _ _))))) rfl (fun v h3 hp => ?_)
        obtain ⟨e1, hF3, w3⟩ := hp
        simp only at e1
        subst e1
        have k3 := w3.obj'
        obtain ⟨y3, hc3⟩ := w3.cell' hk
        obtain ⟨f3, hf3, hf3'⟩ := w3.pra
        unfold pcell at hc3
        have h5 := (regX_pv s2 hk hv2 ht2 hr2).2.2
        rw [h5, m1_s, he2] at hc3
        refine gs_n 63 a_X4_register_62 rfl ?_
        refine gs_get 66 a_X4_register_63 f_4_42 (by first | assumption | exact hs_same _ _ _ | exact (hs_ne _ _ (by first | assumption | decide | omega)).trans (by first | assumption | exact hs_same _ _ _ | exact (hs_ne _ _ (by first | assumption | decide | omega)).trans (by first | assumption | exact hs_same _ _ _ | exact (hs_ne _ _ (by first | assumption | decide | omega)).trans (by first | assumption | exact hs_same _ _ _ | exact (hs_ne _ _ (by first | assumption | decide | omega)).trans (by first | assumption | exact hs_same _ _ _))))) rfl rfl ?_
        refine gs_n 67 a_X4_register_66 rfl ?_
        refine gs_aa k (64 + k) 68 a_X4_register_67 (by first | assumption | exact hs_same _ _ _ | exact (hs_ne _ _ (by first | assumption | decide | omega)).trans (by first | assumption | exact hs_same _ _ _ | exact (hs_ne _ _ (by first | assumption | decide | omega)).trans (by first | assumption | exact hs_same _ _ _ | exact (hs_ne _ _ (by first | assumption | decide | omega)).trans (by first | assumption | exact hs_same _ _ _ | exact (hs_ne _ _ (by first | assumption | decide | omega)).trans (by first | assumption | exact hs_same _ _ _))))) rfl (by omega) (by decide) (by simp) (hf3' k hk) rfl ?_
        refine gs_get 71 a_X4_register_68 f_4_88 (by first | assumption | exact hs_same _ _ _ | exact (hs_ne _ _ (by first | assumption | decide | omega)).trans (by first | assumption | exact hs_same _ _ _ | exact (hs_ne _ _ (by first | assumption | decide | omega)).trans (by first | assumption | exact hs_same _ _ _ | exact (hs_ne _ _ (by first | assumption | decide | omega)).trans (by first | assumption | exact hs_same _ _ _ | exact (hs_ne _ _ (by first | assumption | decide | omega)).trans (by first | assumption | exact hs_same _ _ _))))) rfl rfl ?_
        refine gs_iret a_X4_register_71 rfl rfl ?_
        exact ⟨rfl, hF2.trans hF3, w3⟩
      by_cases z : (told P X).2.2.1 k = 0
      · rw [if_pos ((m1_no (by omega)).mpr z), if_neg (fun q => q z)]
        refine gs_if 46 32 a_X4_register_29 rfl rfl (fun c29 => ?_) (fun c29 => ?_)
        · refine gs_n 47 a_X4_register_46 rfl ?_
          refine gs_k (nI 0) 48 a_X4_register_47 (by decide +kernel) rfl ?_
          refine gs_cv 51 a_X4_register_48 k_4_82 q_X4_bookHasRoom (c_bookRoom (more := 0) (by omega) (told_n hv) (fun k hk => (T_b hv false k hk).2.1) w') rfl rfl rfl (by simp [Value.category]) (by first | assumption | exact hs_same _ _ _ | exact (hs_ne _ _ (by first | assumption | decide | omega)).trans (by first | assumption | exact hs_same _ _ _ | exact (hs_ne _ _ (by first | assumption | decide | omega)).trans (by first | assumption | exact hs_same _ _ _ | exact (hs_ne _ _ (by first | assumption | decide | omega)).trans (by first | assumption | exact hs_same _ _ _ | exact (hs_ne _ _ (by first | assumption | decide | omega)).trans (by first | assumption | exact hs_same _ _ _))))) rfl (fun v h1 hp => ?_)
          cases hp
          refine gs_if 57 54 a_X4_register_51 rfl rfl (fun c51 => ?_) (fun c51 => ?_)
          · have c51 := (b01_ne _).mp c51
            rw [if_neg (by rw [c51]; simp)]
            refine gs_w [(0, .ref 0), (1, .int (nI k))] (by simp [ix_nd]) (by intro x hx; simp only [List.mem_cons, List.not_mem_nil, or_false] at hx; rcases hx with rfl | rfl <;> rfl) ?_
            exact last X h (FS.rf _ _) hv z rfl (by have := room_sm hnd c51; omega) w'
          · have c51 : bkF (told P X) 0 = false := (b01_0 _).mp (Classical.byContradiction c51)
            rw [if_pos c51]
            refine gs_k (-8) 56 a_X4_register_54 (by decide +kernel) rfl ?_
            refine gs_iret a_X4_register_56 rfl rfl ?_
            exact ⟨rfl, FS.rf _ _, w⟩
        · exact absurd rfl c29
      · rw [if_neg (fun q => z ((m1_no (by omega)).mp q)), if_pos z]
        refine gs_if 46 32 a_X4_register_29 rfl rfl (fun c29 => ?_) (fun c29 => ?_)
        · exact absurd (show nI 1 = 0 from c29) (by decide +kernel)
        · have q1 := dec_pv (c := 0) (by omega) s2 hk hv z (hnd k hk)
          have q2 := fin_pv (c := 0) (by omega) s2 hk hv hnd z
          refine gs_n 33 a_X4_register_32 rfl ?_
          refine gs_n 34 a_X4_register_33 rfl ?_
          refine gs_k (nI 0) 35 a_X4_register_34 (by decide +kernel) rfl ?_
          refine gs_cv 38 a_X4_register_35 k_4_75 q_X4_decide (c_decX false hk hv z (hnd k hk) w') rfl rfl rfl (by simp [Value.category]) (by first | assumption | exact hs_same _ _ _ | exact (hs_ne _ _ (by first | assumption | decide | omega)).trans (by first | assumption | exact hs_same _ _ _ | exact (hs_ne _ _ (by first | assumption | decide | omega)).trans (by first | assumption | exact hs_same _ _ _ | exact (hs_ne _ _ (by first | assumption | decide | omega)).trans (by first | assumption | exact hs_same _ _ _ | exact (hs_ne _ _ (by first | assumption | decide | omega)).trans (by first | assumption | exact hs_same _ _ _))))) rfl (fun v h1 hp => ?_)
          obtain ⟨e1, hF1, w3⟩ := hp
          simp only at e1
          subst e1
          simp only [Bool.false_eq_true, if_false] at w3
          have k1 := w3.obj'
          refine gs_n 39 a_X4_register_38 rfl ?_
          refine gs_n 40 a_X4_register_39 rfl ?_
          refine gs_cv 43 a_X4_register_40 k_4_79 q_X4_finish (c_finX hk q1.1 q1.2.1 q1.2.2 w3) rfl rfl rfl (by simp [Value.category]) (by first | assumption | exact hs_same _ _ _ | exact (hs_ne _ _ (by first | assumption | decide | omega)).trans (by first | assumption | exact hs_same _ _ _ | exact (hs_ne _ _ (by first | assumption | decide | omega)).trans (by first | assumption | exact hs_same _ _ _ | exact (hs_ne _ _ (by first | assumption | decide | omega)).trans (by first | assumption | exact hs_same _ _ _ | exact (hs_ne _ _ (by first | assumption | decide | omega)).trans (by first | assumption | exact hs_same _ _ _))))) rfl (fun v h2 hp => ?_)
          obtain ⟨e1, hF2, w4⟩ := hp
          simp only at e1
          subst e1
          refine gs_n 57 a_X4_register_43 rfl ?_
          refine gs_w [(0, .ref 0), (1, .int (nI k))] (by simp [ix_nd]) (by intro x hx; simp only [List.mem_cons, List.not_mem_nil, or_false] at hx; rcases hx with rfl | rfl <;> rfl) ?_
          exact last _ h2 (hF1.trans hF2) q2.1 q2.2.2.1 (by rw [q2.2.2.2.1]) q2.2.2.2.2 w4
    · have c14 : isK x = false := (b01_0 _).mp (Classical.byContradiction c14)
      rw [if_pos c14]
      refine gs_k (-2) 19 a_X4_register_17 (by decide +kernel) rfl ?_
      refine gs_iret a_X4_register_19 rfl rfl ?_
      exact ⟨rfl, FS.rf _ _, w⟩
  · have c4 := (b01_ne _).mp c4
    rw [if_pos c4]
    refine gs_k (-1) 8 a_X4_register_7 (by decide +kernel) rfl ?_
    refine gs_iret a_X4_register_8 rfl rfl ?_
    exact ⟨rfl, FS.rf _ _, w⟩
theorem c_begin (x e : Int32) (hs : SI (P, cap, tmo, clk, cl, cut, X, sy, torn, tE, tp, an)) (w : CS h (P, cap, tmo, clk, cl, cut, X, sy, torn, tE, tp, an)) : ev (d + 7) n_X4_begin [.ref 0, .int x, .int e] h (fun u => u.1 = some (.int (F_begin (P, cap, tmo, clk, cl, cut, X, sy, torn, tE, tp, an) x e).1) ∧ FS cC h u.2 ∧ CS u.2 (F_begin (P, cap, tmo, clk, cl, cut, X, sy, torn, tE, tp, an) x e).2) := by
  obtain ⟨s1, s2, s3, s4, s5, s6, s7, s8, s9, hv, s11, -⟩ := hs
  have w' : CE h P cap tmo clk cl cut X sy torn tE tp an (tS cl P X) := w
  have w1 := w'.obj'
  simp only [F_begin]
  refine ev_of q_X4_begin (Nat.le_of_ble_eq_true rfl) ?_
  refine gs_n 1 a_X4_begin_0 rfl ?_
  refine gs_n 2 a_X4_begin_1 rfl ?_
  refine gs_n 3 a_X4_begin_2 rfl ?_
  refine gs_k (nI 1) 4 a_X4_begin_3 (by decide +kernel) rfl ?_
  refine gs_cv 7 a_X4_begin_4 k_4_91 q_X4_refusalOf (c_refusal x e true (fun k hk => (T_b hv cl k hk).1) w') rfl rfl rfl (by simp [Value.category]) (by first | assumption | exact hs_same _ _ _ | exact (hs_ne _ _ (by first | assumption | decide | omega)).trans (by first | assumption | exact hs_same _ _ _ | exact (hs_ne _ _ (by first | assumption | decide | omega)).trans (by first | assumption | exact hs_same _ _ _ | exact (hs_ne _ _ (by first | assumption | decide | omega)).trans (by first | assumption | exact hs_same _ _ _ | exact (hs_ne _ _ (by first | assumption | decide | omega)).trans (by first | assumption | exact hs_same _ _ _))))) rfl (fun v h1 hp => ?_)
  cases hp
  refine gs_n 8 a_X4_begin_7 rfl ?_
  refine gs_n 9 a_X4_begin_8 rfl ?_
  refine gs_if 14 12 a_X4_begin_9 rfl rfl (fun c9 => ?_) (fun c9 => ?_)
  · have c9 : refF cl (tS cl P X) x e true = nI 0 := c9
    rw [if_neg (fun q => q c9)]
    obtain ⟨r1, r2, r3, r4, r5⟩ := refF_0 c9
    subst r1
    obtain ⟨rfl, hnd⟩ := s11 rfl
    rw [tS_f] at w' w1 r4 r5
    obtain ⟨hk, hx⟩ := isK_kn r3
    generalize hkk : kn x = k at *
    subst hx
    subst r5
    obtain ⟨y, hc⟩ := w'.cell' hk
    obtain ⟨f, hf, hf'⟩ := w'.pra
    have hTb := (T_b hv false k hk).2.1
    rw [tS_f] at hTb
    refine gs_n 15 a_X4_begin_14 rfl ?_
    refine gs_get 18 a_X4_begin_15 f_4_42 (by first | assumption | exact hs_same _ _ _ | exact (hs_ne _ _ (by first | assumption | decide | omega)).trans (by first | assumption | exact hs_same _ _ _ | exact (hs_ne _ _ (by first | assumption | decide | omega)).trans (by first | assumption | exact hs_same _ _ _ | exact (hs_ne _ _ (by first | assumption | decide | omega)).trans (by first | assumption | exact hs_same _ _ _ | exact (hs_ne _ _ (by first | assumption | decide | omega)).trans (by first | assumption | exact hs_same _ _ _))))) rfl rfl ?_
    refine gs_n 19 a_X4_begin_18 rfl ?_
    refine gs_aa k (64 + k) 20 a_X4_begin_19 (by first | assumption | exact hs_same _ _ _ | exact (hs_ne _ _ (by first | assumption | decide | omega)).trans (by first | assumption | exact hs_same _ _ _ | exact (hs_ne _ _ (by first | assumption | decide | omega)).trans (by first | assumption | exact hs_same _ _ _ | exact (hs_ne _ _ (by first | assumption | decide | omega)).trans (by first | assumption | exact hs_same _ _ _ | exact (hs_ne _ _ (by first | assumption | decide | omega)).trans (by first | assumption | exact hs_same _ _ _))))) rfl (by omega) (by decide) (by simp) (hf' k hk) rfl ?_
    refine gs_cv 23 a_X4_begin_20 k_4_71 q_X2_isOpen (e_isOpen hc) rfl rfl rfl (by simp [Value.category]) (by first | assumption | exact hs_same _ _ _ | exact (hs_ne _ _ (by first | assumption | decide | omega)).trans (by first | assumption | exact hs_same _ _ _ | exact (hs_ne _ _ (by first | assumption | decide | omega)).trans (by first | assumption | exact hs_same _ _ _ | exact (hs_ne _ _ (by first | assumption | decide | omega)).trans (by first | assumption | exact hs_same _ _ _ | exact (hs_ne _ _ (by first | assumption | decide | omega)).trans (by first | assumption | exact hs_same _ _ _))))) rfl (fun v h1 hp => ?_)
    cases hp
    by_cases z : (told P X).2.2.1 k = 0
    · rw [if_pos ((m1_no (by omega)).mpr z), if_neg (fun q => q z)]
      refine gs_if 29 26 a_X4_begin_23 rfl rfl (fun c23 => ?_) (fun c23 => ?_)
      · refine gs_n 30 a_X4_begin_29 rfl ?_
        refine gs_k (nI 1) 31 a_X4_begin_30 (by decide +kernel) rfl ?_
        refine gs_cv 34 a_X4_begin_31 k_4_82 q_X4_bookHasRoom (c_bookRoom (more := 1) (by omega) (told_n hv) (fun k hk => (T_b hv false k hk).2.1) w') rfl rfl rfl (by simp [Value.category]) (by first | assumption | exact hs_same _ _ _ | exact (hs_ne _ _ (by first | assumption | decide | omega)).trans (by first | assumption | exact hs_same _ _ _ | exact (hs_ne _ _ (by first | assumption | decide | omega)).trans (by first | assumption | exact hs_same _ _ _ | exact (hs_ne _ _ (by first | assumption | decide | omega)).trans (by first | assumption | exact hs_same _ _ _ | exact (hs_ne _ _ (by first | assumption | decide | omega)).trans (by first | assumption | exact hs_same _ _ _))))) rfl (fun v h1 hp => ?_)
        cases hp
        refine gs_if 40 37 a_X4_begin_34 rfl rfl (fun c34 => ?_) (fun c34 => ?_)
        · have c34 := (b01_ne _).mp c34
          rw [if_neg (by rw [c34]; simp)]
          have hrm := room_sm hnd c34
          obtain ⟨n, ep, tx, bg, ba, ad, lc, de, mq, nx, la, en, hT⟩ := told_ex P X
          have hg : GT P cap X (n, ep, tx, bg, ba, ad, lc, de, mq, nx, la, en) := hT ▸ pv_all hv
          rw [hT] at w' w1 z r4 hrm ⊢
          simp only at z r4 hrm w1 ⊢
          have hb := pv_begin s2 hv hT hk r4 z s7 (by omega)
          have h2 := hg.1.2.1
          have h3 := (hg.1.2.2.2.2.1 k hk).1
          rw [m1_p r4]
          refine gs_n 41 a_X4_begin_40 rfl ?_
          refine gs_get 44 a_X4_begin_41 f_4_95 (by first | assumption | exact hs_same _ _ _ | exact (hs_ne _ _ (by first | assumption | decide | omega)).trans (by first | assumption | exact hs_same _ _ _ | exact (hs_ne _ _ (by first | assumption | decide | omega)).trans (by first | assumption | exact hs_same _ _ _ | exact (hs_ne _ _ (by first | assumption | decide | omega)).trans (by first | assumption | exact hs_same _ _ _ | exact (hs_ne _ _ (by first | assumption | decide | omega)).trans (by first | assumption | exact hs_same _ _ _))))) rfl rfl ?_
          refine gs_n 46 a_X4_begin_44 rfl ?_
          refine gs_n 47 a_X4_begin_46 rfl ?_
          refine gs_k (nI 1) 48 a_X4_begin_47 (by decide +kernel) rfl ?_
          refine gs_n 49 a_X4_begin_48 rfl ?_
          refine gs_n 50 a_X4_begin_49 rfl ?_
          refine gs_n 51 a_X4_begin_50 rfl ?_
          refine gs_get 54 a_X4_begin_51 f_4_98 (by first | assumption | exact hs_same _ _ _ | exact (hs_ne _ _ (by first | assumption | decide | omega)).trans (by first | assumption | exact hs_same _ _ _ | exact (hs_ne _ _ (by first | assumption | decide | omega)).trans (by first | assumption | exact hs_same _ _ _ | exact (hs_ne _ _ (by first | assumption | decide | omega)).trans (by first | assumption | exact hs_same _ _ _ | exact (hs_ne _ _ (by first | assumption | decide | omega)).trans (by first | assumption | exact hs_same _ _ _))))) rfl rfl ?_
          refine gs_n 56 a_X4_begin_54 rfl ?_
          refine gs_cv 59 a_X4_begin_56 k_4_101 q_X4_writeToBook (c_book 1 k (ep k - 1) clk nx s4 s2 (okE_book s2 (by omega) hk (by omega) (by omega) (by omega) (by omega)) hg (by show 16 * n + 16 ≤ 16000; omega) (fun _ => by omega) (by omega) w') rfl rfl rfl (by simp [Value.category]) (by first | assumption | exact hs_same _ _ _ | exact (hs_ne _ _ (by first | assumption | decide | omega)).trans (by first | assumption | exact hs_same _ _ _ | exact (hs_ne _ _ (by first | assumption | decide | omega)).trans (by first | assumption | exact hs_same _ _ _ | exact (hs_ne _ _ (by first | assumption | decide | omega)).trans (by first | assumption | exact hs_same _ _ _ | exact (hs_ne _ _ (by first | assumption | decide | omega)).trans (by first | assumption | exact hs_same _ _ _))))) rfl (fun v h2 hp => ?_)
          obtain ⟨e1, hF1, w3⟩ := hp
          simp only at e1
          subst e1
          refine gs_n 61 a_X4_begin_59 rfl ?_
          refine gs_iret a_X4_begin_61 rfl rfl ?_
          refine ⟨rfl, hF1, ?_⟩
          show CE h2 P cap tmo clk false cut _ sy 0 tE tp an (tS false P _)
          rw [tS_f, hb.2]
          exact w3
        · have c34 : bkF (told P X) 1 = false := (b01_0 _).mp (Classical.byContradiction c34)
          rw [if_pos c34]
          refine gs_k (-8) 39 a_X4_begin_37 (by decide +kernel) rfl ?_
          refine gs_iret a_X4_begin_39 rfl rfl ?_
          exact ⟨rfl, FS.rf _ _, w⟩
      · exact absurd rfl c23
    · rw [if_neg (fun q => z ((m1_no (by omega)).mp q)), if_pos z]
      refine gs_if 29 26 a_X4_begin_23 rfl rfl (fun c23 => ?_) (fun c23 => ?_)
      · exact absurd (show nI 1 = 0 from c23) (by decide +kernel)
      · refine gs_k (-4) 28 a_X4_begin_26 (by decide +kernel) rfl ?_
        refine gs_iret a_X4_begin_28 rfl rfl ?_
        exact ⟨rfl, FS.rf _ _, w⟩
  · rw [if_pos (show refF cl (tS cl P X) x e true ≠ nI 0 from c9)]
    refine gs_n 13 a_X4_begin_12 rfl ?_
    refine gs_iret a_X4_begin_13 rfl rfl ?_
    exact ⟨rfl, FS.rf _ _, w⟩
theorem c_end (x e : Int32) (c : Bool) (hs : SI (P, cap, tmo, clk, cl, cut, X, sy, torn, tE, tp, an)) (w : CS h (P, cap, tmo, clk, cl, cut, X, sy, torn, tE, tp, an)) : ev (d + 7) n_X4_end [.ref 0, .int x, .int e, .int (b01 c)] h (fun u => u.1 = some (.int (F_end (P, cap, tmo, clk, cl, cut, X, sy, torn, tE, tp, an) x e c).1) ∧ FS cC h u.2 ∧ CS u.2 (F_end (P, cap, tmo, clk, cl, cut, X, sy, torn, tE, tp, an) x e c).2) := by
  obtain ⟨s1, s2, s3, s4, s5, s6, s7, s8, s9, hv, s11, -⟩ := hs
  have w' : CE h P cap tmo clk cl cut X sy torn tE tp an (tS cl P X) := w
  have w1 := w'.obj'
  simp only [F_end]
  refine ev_of q_X4_end (Nat.le_of_ble_eq_true rfl) ?_
  refine gs_n 1 a_X4_end_0 rfl ?_
  refine gs_n 2 a_X4_end_1 rfl ?_
  refine gs_n 3 a_X4_end_2 rfl ?_
  refine gs_k (nI 1) 4 a_X4_end_3 (by decide +kernel) rfl ?_
  refine gs_cv 7 a_X4_end_4 k_4_91 q_X4_refusalOf (c_refusal x e true (fun k hk => (T_b hv cl k hk).1) w') rfl rfl rfl (by simp [Value.category]) (by first | assumption | exact hs_same _ _ _ | exact (hs_ne _ _ (by first | assumption | decide | omega)).trans (by first | assumption | exact hs_same _ _ _ | exact (hs_ne _ _ (by first | assumption | decide | omega)).trans (by first | assumption | exact hs_same _ _ _ | exact (hs_ne _ _ (by first | assumption | decide | omega)).trans (by first | assumption | exact hs_same _ _ _ | exact (hs_ne _ _ (by first | assumption | decide | omega)).trans (by first | assumption | exact hs_same _ _ _))))) rfl (fun v h1 hp => ?_)
  cases hp
  refine gs_n 9 a_X4_end_7 rfl ?_
  refine gs_n 11 a_X4_end_9 rfl ?_
  refine gs_if 17 14 a_X4_end_11 rfl rfl (fun c9 => ?_) (fun c9 => ?_)
  · have c9 : refF cl (tS cl P X) x e true = nI 0 := c9
    rw [if_neg (fun q => q c9)]
    obtain ⟨r1, r2, r3, r4, r5⟩ := refF_0 c9
    subst r1
    obtain ⟨rfl, hnd⟩ := s11 rfl
    rw [tS_f] at w' w1 r4 r5
    obtain ⟨hk, hx⟩ := isK_kn r3
    generalize hkk : kn x = k at *
    subst hx
    subst r5
    obtain ⟨y, hc⟩ := w'.cell' hk
    obtain ⟨f, hf, hf'⟩ := w'.pra
    have hTb := (T_b hv false k hk).2.1
    rw [tS_f] at hTb
    refine gs_n 18 a_X4_end_17 rfl ?_
    refine gs_get 21 a_X4_end_18 f_4_42 (by first | assumption | exact hs_same _ _ _ | exact (hs_ne _ _ (by first | assumption | decide | omega)).trans (by first | assumption | exact hs_same _ _ _ | exact (hs_ne _ _ (by first | assumption | decide | omega)).trans (by first | assumption | exact hs_same _ _ _ | exact (hs_ne _ _ (by first | assumption | decide | omega)).trans (by first | assumption | exact hs_same _ _ _ | exact (hs_ne _ _ (by first | assumption | decide | omega)).trans (by first | assumption | exact hs_same _ _ _))))) rfl rfl ?_
    refine gs_n 22 a_X4_end_21 rfl ?_
    refine gs_aa k (64 + k) 23 a_X4_end_22 (by first | assumption | exact hs_same _ _ _ | exact (hs_ne _ _ (by first | assumption | decide | omega)).trans (by first | assumption | exact hs_same _ _ _ | exact (hs_ne _ _ (by first | assumption | decide | omega)).trans (by first | assumption | exact hs_same _ _ _ | exact (hs_ne _ _ (by first | assumption | decide | omega)).trans (by first | assumption | exact hs_same _ _ _ | exact (hs_ne _ _ (by first | assumption | decide | omega)).trans (by first | assumption | exact hs_same _ _ _))))) rfl (by omega) (by decide) (by simp) (hf' k hk) rfl ?_
    refine gs_cv 26 a_X4_end_23 k_4_71 q_X2_isOpen (e_isOpen hc) rfl rfl rfl (by simp [Value.category]) (by first | assumption | exact hs_same _ _ _ | exact (hs_ne _ _ (by first | assumption | decide | omega)).trans (by first | assumption | exact hs_same _ _ _ | exact (hs_ne _ _ (by first | assumption | decide | omega)).trans (by first | assumption | exact hs_same _ _ _ | exact (hs_ne _ _ (by first | assumption | decide | omega)).trans (by first | assumption | exact hs_same _ _ _ | exact (hs_ne _ _ (by first | assumption | decide | omega)).trans (by first | assumption | exact hs_same _ _ _))))) rfl (fun v h1 hp => ?_)
    cases hp
    by_cases z : (told P X).2.2.1 k = 0
    · rw [if_pos ((m1_no (by omega)).mpr z), if_pos z]
      refine gs_if 32 29 a_X4_end_26 rfl rfl (fun c23 => ?_) (fun c23 => ?_)
      · exact absurd rfl c23
      · refine gs_k (-5) 31 a_X4_end_29 (by decide +kernel) rfl ?_
        refine gs_iret a_X4_end_31 rfl rfl ?_
        exact ⟨rfl, FS.rf _ _, w⟩
    · rw [if_neg (fun q => z ((m1_no (by omega)).mp q)), if_neg z]
      have q1 := dec_pv (c := if c then 1 else 0) (by split <;> omega) s2 hk hv z (hnd k hk)
      refine gs_if 32 29 a_X4_end_26 rfl rfl (fun c23 => ?_) (fun c23 => ?_)
      · refine gs_n 33 a_X4_end_32 rfl ?_
        refine gs_n 34 a_X4_end_33 rfl ?_
        refine gs_n 35 a_X4_end_34 rfl ?_
        refine gs_cv 38 a_X4_end_35 k_4_75 q_X4_decide (c_decX c hk hv z (hnd k hk) w') rfl rfl rfl (by simp [Value.category]) (by first | assumption | exact hs_same _ _ _ | exact (hs_ne _ _ (by first | assumption | decide | omega)).trans (by first | assumption | exact hs_same _ _ _ | exact (hs_ne _ _ (by first | assumption | decide | omega)).trans (by first | assumption | exact hs_same _ _ _ | exact (hs_ne _ _ (by first | assumption | decide | omega)).trans (by first | assumption | exact hs_same _ _ _ | exact (hs_ne _ _ (by first | assumption | decide | omega)).trans (by first | assumption | exact hs_same _ _ _))))) rfl (fun v h1 hp => ?_)
        obtain ⟨e1, hF1, w3⟩ := hp
        simp only at e1
        subst e1
        have k1 := w3.obj'
        refine gs_n 39 a_X4_end_38 rfl ?_
        refine gs_n 40 a_X4_end_39 rfl ?_
        refine gs_cv 43 a_X4_end_40 k_4_79 q_X4_finish (c_finX hk q1.1 q1.2.1 q1.2.2 w3) rfl rfl rfl (by simp [Value.category]) (by first | assumption | exact hs_same _ _ _ | exact (hs_ne _ _ (by first | assumption | decide | omega)).trans (by first | assumption | exact hs_same _ _ _ | exact (hs_ne _ _ (by first | assumption | decide | omega)).trans (by first | assumption | exact hs_same _ _ _ | exact (hs_ne _ _ (by first | assumption | decide | omega)).trans (by first | assumption | exact hs_same _ _ _ | exact (hs_ne _ _ (by first | assumption | decide | omega)).trans (by first | assumption | exact hs_same _ _ _))))) rfl (fun v h2 hp => ?_)
        obtain ⟨e1, hF2, w4⟩ := hp
        simp only at e1
        subst e1
        refine gs_k (nI 0) 44 a_X4_end_43 (by decide +kernel) rfl ?_
        refine gs_iret a_X4_end_44 rfl rfl ?_
        exact ⟨rfl, hF1.trans hF2, w4⟩
      · exact absurd (show ¬ nI 1 = 0 by decide +kernel) c23
  · rw [if_pos (show refF cl (tS cl P X) x e true ≠ nI 0 from c9)]
    refine gs_n 16 a_X4_end_14 rfl ?_
    refine gs_iret a_X4_end_16 rfl rfl ?_
    exact ⟨rfl, FS.rf _ _, w⟩
theorem c_isPlace {T : TS} (g x : Int32) (w : CE h P cap tmo clk cl cut X sy torn tE tp an T) : ev (d + 2) n_X4_isPlace [.ref 0, .int g, .int x] h (fun u => u = (some (.int (b01 (isPlF P g x))), h)) := by
  obtain ⟨n, ep, tx, bg, ba, ad, lc, de, mq, nx, la, en⟩ := T
  obtain ⟨pr, mk, w, -⟩ := w
  exact e_isPlace g x w
theorem c_isPart {T : TS} (x : Int32) (w : CE h P cap tmo clk cl cut X sy torn tE tp an T) : ev (d + 1) n_X4_isPartition [.ref 0, .int x] h (fun u => u = (some (.int (b01 (isPn P x))), h)) := by
  obtain ⟨n, ep, tx, bg, ba, ad, lc, de, mq, nx, la, en⟩ := T
  obtain ⟨pr, mk, w, -⟩ := w
  exact e_isPart x w
theorem c_later (x e g p o : Int32) (hs : SI (P, cap, tmo, clk, cl, cut, X, sy, torn, tE, tp, an)) (w : CS h (P, cap, tmo, clk, cl, cut, X, sy, torn, tE, tp, an)) : ev (d + 7) n_X4_later [.ref 0, .int x, .int e, .int g, .int p, .int o] h (fun u => u.1 = some (.int (F_later (P, cap, tmo, clk, cl, cut, X, sy, torn, tE, tp, an) x e g p o).1) ∧ FS cC h u.2 ∧ CS u.2 (F_later (P, cap, tmo, clk, cl, cut, X, sy, torn, tE, tp, an) x e g p o).2) := by
  obtain ⟨s1, s2, s3, s4, s5, s6, s7, s8, s9, hv, s11, -⟩ := hs
  have w' : CE h P cap tmo clk cl cut X sy torn tE tp an (tS cl P X) := w
  have w1 := w'.obj'
  simp only [F_later]
  have rest : ∀ kb, kb = (isPlF P g p && decide (0 ≤ o.toInt)) → gs none (d + 6) mD_X4_later (23, [(0, .ref 0), (1, .int x), (2, .int e), (3, .int g), (4, .int p), (5, .int o)], [.int (b01 kb), .int e, .int x, .ref 0], h) (fun u => u.1 = some (.int (F_later (P, cap, tmo, clk, cl, cut, X, sy, torn, tE, tp, an) x e g p o).1) ∧ FS cC h u.2 ∧ CS u.2 (F_later (P, cap, tmo, clk, cl, cut, X, sy, torn, tE, tp, an) x e g p o).2) := by
    intro kb hkb
    simp only [F_later]
    rw [← hkb]
    refine gs_cv 26 a_X4_later_23 k_4_91 q_X4_refusalOf (c_refusal x e kb (fun k hk => (T_b hv cl k hk).1) w') rfl rfl rfl (by simp [Value.category]) (by first | assumption | exact hs_same _ _ _ | exact (hs_ne _ _ (by first | assumption | decide | omega)).trans (by first | assumption | exact hs_same _ _ _ | exact (hs_ne _ _ (by first | assumption | decide | omega)).trans (by first | assumption | exact hs_same _ _ _ | exact (hs_ne _ _ (by first | assumption | decide | omega)).trans (by first | assumption | exact hs_same _ _ _ | exact (hs_ne _ _ (by first | assumption | decide | omega)).trans (by first | assumption | exact hs_same _ _ _))))) rfl (fun v h1 hp => ?_)
    cases hp
    refine gs_n 28 a_X4_later_26 rfl ?_
    refine gs_n 30 a_X4_later_28 rfl ?_
    refine gs_if 36 33 a_X4_later_30 rfl rfl (fun c9 => ?_) (fun c9 => ?_)
    · have c9 : refF cl (tS cl P X) x e kb = nI 0 := c9
      rw [if_neg (fun q => q c9)]
      obtain ⟨r1, r2, r3, r4, r5⟩ := refF_0 c9
      subst r1
      obtain ⟨rfl, hnd⟩ := s11 rfl
      rw [tS_f] at w' w1 r4 r5
      obtain ⟨hk, hx⟩ := isK_kn r3
      rw [r2] at hkb
      have hkb := hkb.symm
      rw [Bool.and_eq_true] at hkb
      obtain ⟨g1, g2, p1, p2⟩ := isPlF_kn hkb.1
      have o1 : 0 ≤ o.toInt := of_decide_eq_true hkb.2
      have o2 := nI_ofInt o1
      have o3 : kn o < 2 ^ 31 := by have := o.toInt_lt; unfold kn; omega
      change o = nI (kn o) at o2
      generalize hkk : kn x = k at *
      generalize hkg : kn g = gg at *
      generalize hkp : kn p = pp at *
      generalize hko : kn o = oo at *
      subst hx
      subst r5
      subst g2
      subst p2
      subst o2
      obtain ⟨y, hc⟩ := w'.cell' hk
      obtain ⟨f, hf, hf'⟩ := w'.pra
      have hTb := (T_b hv false k hk).2.1
      rw [tS_f] at hTb
      refine gs_n 37 a_X4_later_36 rfl ?_
      refine gs_get 40 a_X4_later_37 f_4_42 (by first | assumption | exact hs_same _ _ _ | exact (hs_ne _ _ (by first | assumption | decide | omega)).trans (by first | assumption | exact hs_same _ _ _ | exact (hs_ne _ _ (by first | assumption | decide | omega)).trans (by first | assumption | exact hs_same _ _ _ | exact (hs_ne _ _ (by first | assumption | decide | omega)).trans (by first | assumption | exact hs_same _ _ _ | exact (hs_ne _ _ (by first | assumption | decide | omega)).trans (by first | assumption | exact hs_same _ _ _))))) rfl rfl ?_
      refine gs_n 41 a_X4_later_40 rfl ?_
      refine gs_aa k (64 + k) 42 a_X4_later_41 (by first | assumption | exact hs_same _ _ _ | exact (hs_ne _ _ (by first | assumption | decide | omega)).trans (by first | assumption | exact hs_same _ _ _ | exact (hs_ne _ _ (by first | assumption | decide | omega)).trans (by first | assumption | exact hs_same _ _ _ | exact (hs_ne _ _ (by first | assumption | decide | omega)).trans (by first | assumption | exact hs_same _ _ _ | exact (hs_ne _ _ (by first | assumption | decide | omega)).trans (by first | assumption | exact hs_same _ _ _))))) rfl (by omega) (by decide) (by simp) (hf' k hk) rfl ?_
      refine gs_cv 45 a_X4_later_42 k_4_71 q_X2_isOpen (e_isOpen hc) rfl rfl rfl (by simp [Value.category]) (by first | assumption | exact hs_same _ _ _ | exact (hs_ne _ _ (by first | assumption | decide | omega)).trans (by first | assumption | exact hs_same _ _ _ | exact (hs_ne _ _ (by first | assumption | decide | omega)).trans (by first | assumption | exact hs_same _ _ _ | exact (hs_ne _ _ (by first | assumption | decide | omega)).trans (by first | assumption | exact hs_same _ _ _ | exact (hs_ne _ _ (by first | assumption | decide | omega)).trans (by first | assumption | exact hs_same _ _ _))))) rfl (fun v h1 hp => ?_)
      cases hp
      by_cases z : (told P X).2.2.1 k = 0
      · rw [if_pos ((m1_no (by omega)).mpr z), if_pos z]
        refine gs_if 51 48 a_X4_later_45 rfl rfl (fun c23 => ?_) (fun c23 => ?_)
        · exact absurd rfl c23
        · refine gs_k (-5) 50 a_X4_later_48 (by decide +kernel) rfl ?_
          refine gs_iret a_X4_later_50 rfl rfl ?_
          exact ⟨rfl, FS.rf _ _, w⟩
      · rw [if_neg (fun q => z ((m1_no (by omega)).mp q)), if_neg z]
        refine gs_if 51 48 a_X4_later_45 rfl rfl (fun c23 => ?_) (fun c23 => ?_)
        · refine gs_n 52 a_X4_later_51 rfl ?_
          refine gs_k (nI 0) 53 a_X4_later_52 (by decide +kernel) rfl ?_
          refine gs_cv 56 a_X4_later_53 k_4_82 q_X4_bookHasRoom (c_bookRoom (more := 0) (by omega) (told_n hv) (fun k hk => (T_b hv false k hk).2.1) w') rfl rfl rfl (by simp [Value.category]) (by first | assumption | exact hs_same _ _ _ | exact (hs_ne _ _ (by first | assumption | decide | omega)).trans (by first | assumption | exact hs_same _ _ _ | exact (hs_ne _ _ (by first | assumption | decide | omega)).trans (by first | assumption | exact hs_same _ _ _ | exact (hs_ne _ _ (by first | assumption | decide | omega)).trans (by first | assumption | exact hs_same _ _ _ | exact (hs_ne _ _ (by first | assumption | decide | omega)).trans (by first | assumption | exact hs_same _ _ _))))) rfl (fun v h1 hp => ?_)
          cases hp
          refine gs_if 62 59 a_X4_later_56 rfl rfl (fun c34 => ?_) (fun c34 => ?_)
          · have c34 := (b01_ne _).mp c34
            rw [if_neg (by rw [c34]; simp)]
            have hrm := room_sm hnd c34
            obtain ⟨n, ep, tx, bg, ba, ad, lc, de, mq, nx, la, en, hT⟩ := told_ex P X
            have hg : GT P cap X (n, ep, tx, bg, ba, ad, lc, de, mq, nx, la, en) := hT ▸ pv_all hv
            rw [hT] at w' w1 z r4 hrm ⊢
            simp only at z r4 hrm w1 ⊢
            have hb := pv_later s2 hv hT hk z (a := 8 * gg + pp) (b := oo) (by omega) o3 (by omega)
            have h3 := (hg.1.2.2.2.2.1 k hk).1
            rw [m1_p r4]
            refine gs_n 63 a_X4_later_62 rfl ?_
            refine gs_k (nI 3) 64 a_X4_later_63 (by decide +kernel) rfl ?_
            refine gs_n 65 a_X4_later_64 rfl ?_
            refine gs_n 66 a_X4_later_65 rfl ?_
            refine gs_n 67 a_X4_later_66 rfl ?_
            refine gs_n 68 a_X4_later_67 rfl ?_
            refine gs_n 70 a_X4_later_68 rfl ?_
            refine gs_cv 73 a_X4_later_70 k_4_116 q_X4_placeOf (e_placeOf gg pp) rfl rfl rfl (by simp [Value.category]) (by first | assumption | exact hs_same _ _ _ | exact (hs_ne _ _ (by first | assumption | decide | omega)).trans (by first | assumption | exact hs_same _ _ _ | exact (hs_ne _ _ (by first | assumption | decide | omega)).trans (by first | assumption | exact hs_same _ _ _ | exact (hs_ne _ _ (by first | assumption | decide | omega)).trans (by first | assumption | exact hs_same _ _ _ | exact (hs_ne _ _ (by first | assumption | decide | omega)).trans (by first | assumption | exact hs_same _ _ _))))) rfl (fun v h1 hp => ?_)
            cases hp
            refine gs_n 75 a_X4_later_73 rfl ?_
            refine gs_cv 78 a_X4_later_75 k_4_101 q_X4_writeToBook (c_book 3 k (ep k - 1) (8 * gg + pp) oo s4 s2 (okE_book s2 (by omega) hk (by omega) (by omega) (by omega) (by omega)) hg (by show 16 * n + 16 ≤ 16000; omega) (by omega) (by omega) w') rfl rfl rfl (by simp [Value.category]) (by first | assumption | exact hs_same _ _ _ | exact (hs_ne _ _ (by first | assumption | decide | omega)).trans (by first | assumption | exact hs_same _ _ _ | exact (hs_ne _ _ (by first | assumption | decide | omega)).trans (by first | assumption | exact hs_same _ _ _ | exact (hs_ne _ _ (by first | assumption | decide | omega)).trans (by first | assumption | exact hs_same _ _ _ | exact (hs_ne _ _ (by first | assumption | decide | omega)).trans (by first | assumption | exact hs_same _ _ _))))) rfl (fun v h2 hp => ?_)
            obtain ⟨e1, hF1, w3⟩ := hp
            simp only at e1
            subst e1
            refine gs_k (nI 0) 79 a_X4_later_78 (by decide +kernel) rfl ?_
            refine gs_iret a_X4_later_79 rfl rfl ?_
            refine ⟨rfl, hF1, ?_⟩
            show CE h2 P cap tmo clk false cut _ sy 0 tE tp an (tS false P _)
            rw [tS_f, hb.2]
            exact w3
          · have c34 : bkF (told P X) 0 = false := (b01_0 _).mp (Classical.byContradiction c34)
            rw [if_pos c34]
            refine gs_k (-8) 61 a_X4_later_59 (by decide +kernel) rfl ?_
            refine gs_iret a_X4_later_61 rfl rfl ?_
            exact ⟨rfl, FS.rf _ _, w⟩
        · exact absurd (show ¬ nI 1 = 0 by decide +kernel) c23
    · rw [if_pos (show refF cl (tS cl P X) x e kb ≠ nI 0 from c9)]
      refine gs_n 35 a_X4_later_33 rfl ?_
      refine gs_iret a_X4_later_35 rfl rfl ?_
      exact ⟨rfl, FS.rf _ _, w⟩
  simp only [F_later] at rest
  refine ev_of q_X4_later (Nat.le_of_ble_eq_true rfl) ?_
  refine gs_n 1 a_X4_later_0 rfl ?_
  refine gs_n 2 a_X4_later_1 rfl ?_
  refine gs_n 3 a_X4_later_2 rfl ?_
  refine gs_n 4 a_X4_later_3 rfl ?_
  refine gs_n 5 a_X4_later_4 rfl ?_
  refine gs_n 7 a_X4_later_5 rfl ?_
  refine gs_cv 10 a_X4_later_7 k_4_112 q_X4_isPlace (c_isPlace g p w') rfl rfl rfl (by simp [Value.category]) (by first | assumption | exact hs_same _ _ _ | exact (hs_ne _ _ (by first | assumption | decide | omega)).trans (by first | assumption | exact hs_same _ _ _ | exact (hs_ne _ _ (by first | assumption | decide | omega)).trans (by first | assumption | exact hs_same _ _ _ | exact (hs_ne _ _ (by first | assumption | decide | omega)).trans (by first | assumption | exact hs_same _ _ _ | exact (hs_ne _ _ (by first | assumption | decide | omega)).trans (by first | assumption | exact hs_same _ _ _))))) rfl (fun v h1 hp => ?_)
  cases hp
  refine gs_if 22 13 a_X4_later_10 rfl rfl (fun c10 => ?_) (fun c10 => ?_)
  · have c10 := (b01_0 _).mp c10
    refine gs_k (nI 0) 23 a_X4_later_22 (by decide +kernel) rfl ?_
    exact rest false (by rw [c10]; rfl)
  · have c10 := (b01_ne _).mp c10
    refine gs_n 15 a_X4_later_13 rfl ?_
    refine gs_if 22 18 a_X4_later_15 rfl rfl (fun c15 => ?_) (fun c15 => ?_)
    · have c15 : o < 0 := c15
      rw [lt0_iff] at c15
      refine gs_k (nI 0) 23 a_X4_later_22 (by decide +kernel) rfl ?_
      exact rest false (by rw [c10, decide_eq_false (by omega)]; rfl)
    · have c15 : ¬ o < 0 := c15
      rw [lt0_iff] at c15
      refine gs_k (nI 1) 19 a_X4_later_18 (by decide +kernel) rfl ?_
      refine gs_n 23 a_X4_later_19 rfl ?_
      exact rest true (by rw [c10, decide_eq_true (by omega)]; rfl)
end C5
