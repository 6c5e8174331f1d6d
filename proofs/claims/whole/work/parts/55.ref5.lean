/-! The reference: later, mark, marked, tick, sync, answer -/
section R5
variable {d : Nat} {h : ix_H} {P cap tmo clk cut sy torn : Nat} {cl : Bool} {X : List En} {tE : En} {tp an : List Nat} {n nx : Nat} {ep tx bg ba lc de mq en : Nat → Nat} {ad : Nat → Int32} {la : List (Nat × Nat × Nat)} {T : TS} {s : MS} {ar : Nat → Nat → Int32}
theorem r_lat {t a b : Nat} (hl : la.length ≤ 1000) (w : RE h P cap tmo clk cl cut X sy torn tE tp an (n, ep, tx, bg, ba, ad, lc, de, mq, nx, la, en)) : ev (d + 1) n_X5_later [.ref 96, .int (nI t), .int (nI a), .int (nI b)] h (fun u => u.1 = none ∧ FS cM h u.2 ∧ RE u.2 P cap tmo clk cl cut X sy torn tE tp an (n, ep, tx, bg, ba, ad, lc, de, mq, nx, la ++ [(t, a, b)], en)) := by
  obtain ⟨ar, w, hE, htorn, hTR, h18, h19⟩ := w
  have wd := (((w.s15 (upd (ar 15) la.length (nI t))).s16 (upd (ar 16) la.length (nI a))).s17 (upd (ar 17) la.length (nI b))).obj (P, cap, tmo, clk, cl, cut, X.length, sy, torn, nx, la.length + 1, tp.length, an.length)
  obtain ⟨w0, w1, w2, w3, w4, w5, w6, w7, w8, w9, w10, w11, w12, w13, w14, w15, w16, w17, w18, -⟩ := w
  simp only [mcell] at w0
  refine ev_of q_X5_later (Nat.le_of_ble_eq_true rfl) ?_
  refine gs_n 1 a_X5_later_0 rfl ?_
  refine gs_get 4 a_X5_later_1 f_5_58 (by first | assumption | exact hs_same _ _ _ | exact (hs_ne _ _ (by first | assumption | decide | omega)).trans (by first | assumption | exact hs_same _ _ _ | exact (hs_ne _ _ (by first | assumption | decide | omega)).trans (by first | assumption | exact hs_same _ _ _ | exact (hs_ne _ _ (by first | assumption | decide | omega)).trans (by first | assumption | exact hs_same _ _ _ | exact (hs_ne _ _ (by first | assumption | decide | omega)).trans (by first | assumption | exact hs_same _ _ _))))) rfl rfl ?_
  refine gs_n 5 a_X5_later_4 rfl ?_
  refine gs_get 8 a_X5_later_5 f_5_84 (by first | assumption | exact hs_same _ _ _ | exact (hs_ne _ _ (by first | assumption | decide | omega)).trans (by first | assumption | exact hs_same _ _ _ | exact (hs_ne _ _ (by first | assumption | decide | omega)).trans (by first | assumption | exact hs_same _ _ _ | exact (hs_ne _ _ (by first | assumption | decide | omega)).trans (by first | assumption | exact hs_same _ _ _ | exact (hs_ne _ _ (by first | assumption | decide | omega)).trans (by first | assumption | exact hs_same _ _ _))))) rfl rfl ?_
  refine gs_n 9 a_X5_later_8 rfl ?_
  refine gs_is la.length 10 a_X5_later_9 (by first | assumption | exact hs_same _ _ _ | exact (hs_ne _ _ (by first | assumption | decide | omega)).trans (by first | assumption | exact hs_same _ _ _ | exact (hs_ne _ _ (by first | assumption | decide | omega)).trans (by first | assumption | exact hs_same _ _ _ | exact (hs_ne _ _ (by first | assumption | decide | omega)).trans (by first | assumption | exact hs_same _ _ _ | exact (hs_ne _ _ (by first | assumption | decide | omega)).trans (by first | assumption | exact hs_same _ _ _))))) rfl (by omega) (by omega) rfl ?_
  refine gs_n 11 a_X5_later_10 rfl ?_
  refine gs_get 14 a_X5_later_11 f_5_61 (by first | assumption | exact hs_same _ _ _ | exact (hs_ne _ _ (by first | assumption | decide | omega)).trans (by first | assumption | exact hs_same _ _ _ | exact (hs_ne _ _ (by first | assumption | decide | omega)).trans (by first | assumption | exact hs_same _ _ _ | exact (hs_ne _ _ (by first | assumption | decide | omega)).trans (by first | assumption | exact hs_same _ _ _ | exact (hs_ne _ _ (by first | assumption | decide | omega)).trans (by first | assumption | exact hs_same _ _ _))))) rfl rfl ?_
  refine gs_n 15 a_X5_later_14 rfl ?_
  refine gs_get 18 a_X5_later_15 f_5_84 (by first | assumption | exact hs_same _ _ _ | exact (hs_ne _ _ (by first | assumption | decide | omega)).trans (by first | assumption | exact hs_same _ _ _ | exact (hs_ne _ _ (by first | assumption | decide | omega)).trans (by first | assumption | exact hs_same _ _ _ | exact (hs_ne _ _ (by first | assumption | decide | omega)).trans (by first | assumption | exact hs_same _ _ _ | exact (hs_ne _ _ (by first | assumption | decide | omega)).trans (by first | assumption | exact hs_same _ _ _))))) rfl rfl ?_
  refine gs_n 19 a_X5_later_18 rfl ?_
  refine gs_is la.length 20 a_X5_later_19 (by first | assumption | exact hs_same _ _ _ | exact (hs_ne _ _ (by first | assumption | decide | omega)).trans (by first | assumption | exact hs_same _ _ _ | exact (hs_ne _ _ (by first | assumption | decide | omega)).trans (by first | assumption | exact hs_same _ _ _ | exact (hs_ne _ _ (by first | assumption | decide | omega)).trans (by first | assumption | exact hs_same _ _ _ | exact (hs_ne _ _ (by first | assumption | decide | omega)).trans (by first | assumption | exact hs_same _ _ _))))) rfl (by omega) (by omega) rfl ?_
  refine gs_n 21 a_X5_later_20 rfl ?_
  refine gs_get 24 a_X5_later_21 f_5_64 (by first | assumption | exact hs_same _ _ _ | exact (hs_ne _ _ (by first | assumption | decide | omega)).trans (by first | assumption | exact hs_same _ _ _ | exact (hs_ne _ _ (by first | assumption | decide | omega)).trans (by first | assumption | exact hs_same _ _ _ | exact (hs_ne _ _ (by first | assumption | decide | omega)).trans (by first | assumption | exact hs_same _ _ _ | exact (hs_ne _ _ (by first | assumption | decide | omega)).trans (by first | assumption | exact hs_same _ _ _))))) rfl rfl ?_
  refine gs_n 25 a_X5_later_24 rfl ?_
  refine gs_get 28 a_X5_later_25 f_5_84 (by first | assumption | exact hs_same _ _ _ | exact (hs_ne _ _ (by first | assumption | decide | omega)).trans (by first | assumption | exact hs_same _ _ _ | exact (hs_ne _ _ (by first | assumption | decide | omega)).trans (by first | assumption | exact hs_same _ _ _ | exact (hs_ne _ _ (by first | assumption | decide | omega)).trans (by first | assumption | exact hs_same _ _ _ | exact (hs_ne _ _ (by first | assumption | decide | omega)).trans (by first | assumption | exact hs_same _ _ _))))) rfl rfl ?_
  refine gs_n 29 a_X5_later_28 rfl ?_
  refine gs_is la.length 30 a_X5_later_29 (by first | assumption | exact hs_same _ _ _ | exact (hs_ne _ _ (by first | assumption | decide | omega)).trans (by first | assumption | exact hs_same _ _ _ | exact (hs_ne _ _ (by first | assumption | decide | omega)).trans (by first | assumption | exact hs_same _ _ _ | exact (hs_ne _ _ (by first | assumption | decide | omega)).trans (by first | assumption | exact hs_same _ _ _ | exact (hs_ne _ _ (by first | assumption | decide | omega)).trans (by first | assumption | exact hs_same _ _ _))))) rfl (by omega) (by omega) rfl ?_
  refine gs_n 31 a_X5_later_30 rfl ?_
  refine gs_n 32 a_X5_later_31 rfl ?_
  refine gs_get 35 a_X5_later_32 f_5_84 (by first | assumption | exact hs_same _ _ _ | exact (hs_ne _ _ (by first | assumption | decide | omega)).trans (by first | assumption | exact hs_same _ _ _ | exact (hs_ne _ _ (by first | assumption | decide | omega)).trans (by first | assumption | exact hs_same _ _ _ | exact (hs_ne _ _ (by first | assumption | decide | omega)).trans (by first | assumption | exact hs_same _ _ _ | exact (hs_ne _ _ (by first | assumption | decide | omega)).trans (by first | assumption | exact hs_same _ _ _))))) rfl rfl ?_
  refine gs_k (nI 1) 36 a_X5_later_35 (by decide +kernel) rfl ?_
  refine gs_n 37 a_X5_later_36 rfl ?_
  refine gs_put 40 _ a_X5_later_37 f_5_84 (by first | assumption | exact hs_same _ _ _ | exact (hs_ne _ _ (by first | assumption | decide | omega)).trans (by first | assumption | exact hs_same _ _ _ | exact (hs_ne _ _ (by first | assumption | decide | omega)).trans (by first | assumption | exact hs_same _ _ _ | exact (hs_ne _ _ (by first | assumption | decide | omega)).trans (by first | assumption | exact hs_same _ _ _ | exact (hs_ne _ _ (by first | assumption | decide | omega)).trans (by first | assumption | exact hs_same _ _ _))))) (Nat.le_of_ble_eq_true rfl) rfl (fun z => absurd z (by decide)) rfl rfl ?_
  rw [show nI la.length + nI 1 = nI (la.length + 1) from nI_add _ 1]
  refine gs_vret a_X5_later_40 rfl ?_
  refine ⟨rfl, (((FS.m _ (by omega)).trans (FS.m _ (by omega))).trans (FS.m _ (by omega))).trans (FS.m _ (by omega)), (va_up (va_up (va_up ar 15 (upd (ar 15) la.length (nI t))) 16 (upd (ar 16) la.length (nI a))) 17 (upd (ar 17) la.length (nI b))), by rw [List.length_append]; exact wd, ?_, htorn, ?_, h18, h19⟩
  · obtain ⟨q1, q2, q3⟩ := hE
    exact ⟨q1, q2, q3⟩
  · obtain ⟨u1, u2, u3, u4⟩ := hTR
    refine ⟨u1, u2, u3, ?_⟩
    intro i hi
    show upd (ar 15) la.length (nI t) i = _ ∧ upd (ar 16) la.length (nI a) i = _ ∧ upd (ar 17) la.length (nI b) i = _
    by_cases z : i < la.length
    · rw [upd_n (by omega), upd_n (by omega), upd_n (by omega)]
      have : (la ++ [(t, a, b)]).getD i (0, 0, 0) = la.getD i (0, 0, 0) := by simp [List.getD, List.getElem?_append_left z]
      rw [this]
      exact u4 i z
    · have hi2 : i = la.length := by rw [List.length_append] at hi; simp at hi; omega
      subst hi2
      rw [upd_s, upd_s, upd_s]
      have : (la ++ [(t, a, b)]).getD la.length (0, 0, 0) = (t, a, b) := by simp [List.getD]
      rw [this]
      exact ⟨rfl, rfl, rfl⟩
theorem refF_false {x e : Int32} (hc : cl = false) : refF cl T x e false = -2 := by
  unfold refF
  rw [hc]
  rfl
theorem r_later (x e g p o : Int32) (hs : SI (P, cap, tmo, clk, cl, cut, X, sy, torn, tE, tp, an)) (w : RS h (P, cap, tmo, clk, cl, cut, X, sy, torn, tE, tp, an)) : ev (d + 4) n_X5_later_ [.ref 96, .int x, .int e, .int g, .int p, .int o] h (fun u => u.1 = some (.int (F_later (P, cap, tmo, clk, cl, cut, X, sy, torn, tE, tp, an) x e g p o).1) ∧ FS cM h u.2 ∧ RS u.2 (F_later (P, cap, tmo, clk, cl, cut, X, sy, torn, tE, tp, an) x e g p o).2) := by
  obtain ⟨s1, s2, s3, s4, s5, s6, s7, s8, s9, hv, s11, -⟩ := hs
  have w' : RE h P cap tmo clk cl cut X sy torn tE tp an (tS cl P X) := w
  obtain ⟨ar, wm, hE, -, hTR, -, -⟩ := w'.un
  obtain ⟨w0, w1, w2, w3, w4, w5, w6, w7, w8, w9, w10, w11, w12, w13, -⟩ := wm
  simp only [mcell] at w0
  simp only [F_later]
  refine ev_of q_X5_later_ (Nat.le_of_ble_eq_true rfl) ?_
  refine gs_n 1 a_X5_later__0 rfl ?_
  refine gs_get 4 a_X5_later__1 f_5_99 (by first | assumption | exact hs_same _ _ _ | exact (hs_ne _ _ (by first | assumption | decide | omega)).trans (by first | assumption | exact hs_same _ _ _ | exact (hs_ne _ _ (by first | assumption | decide | omega)).trans (by first | assumption | exact hs_same _ _ _ | exact (hs_ne _ _ (by first | assumption | decide | omega)).trans (by first | assumption | exact hs_same _ _ _ | exact (hs_ne _ _ (by first | assumption | decide | omega)).trans (by first | assumption | exact hs_same _ _ _))))) rfl rfl ?_
  refine gs_if 9 7 a_X5_later__4 rfl rfl (fun c4 => ?_) (fun c4 => ?_)
  · have c4 := (b01_0 _).mp c4
    subst c4
    have bad : (isPlF P g p && decide (0 ≤ o.toInt)) = false → gs none (d + 3) mD_X5_later_ (30, [(0, .ref 96)], [], h) (fun u => u.1 = some (.int (F_later (P, cap, tmo, clk, false, cut, X, sy, torn, tE, tp, an) x e g p o).1) ∧ FS cM h u.2 ∧ RS u.2 (F_later (P, cap, tmo, clk, false, cut, X, sy, torn, tE, tp, an) x e g p o).2) := by
      intro hb
      simp only [F_later]
      rw [hb, refF_false rfl, if_pos (by decide +kernel)]
      refine gs_k (-2) 32 a_X5_later__30 (by decide +kernel) rfl ?_
      refine gs_iret a_X5_later__32 rfl rfl ?_
      exact ⟨rfl, FS.rf _ _, w⟩
    simp only [F_later] at bad
    refine gs_n 10 a_X5_later__9 rfl ?_
    refine gs_cs 13 a_X5_later__10 k_5_181 q_X5_isGroup (r_isGroup g) rfl rfl rfl (by simp [Value.category]) rfl (fun v h1 hp => ?_)
    cases hp
    refine gs_if 30 16 a_X5_later__13 rfl rfl (fun c13 => ?_) (fun c13 => ?_)
    · have c13 := (b01_0 _).mp c13
      refine gs_w [(0, .ref 96)] (by simp [ix_nd]) (by intro x hx; simp only [List.mem_cons, List.not_mem_nil, or_false] at hx; rcases hx with rfl <;> rfl) ?_
      exact bad (by unfold isPlF; rw [c13]; rfl)
    · have c13 := (b01_ne _).mp c13
      refine gs_n 17 a_X5_later__16 rfl ?_
      refine gs_n 19 a_X5_later__17 rfl ?_
      refine gs_cv 22 a_X5_later__19 k_5_185 q_X5_isPartition (r_isPart p s2 w') rfl rfl rfl (by simp [Value.category]) (by first | assumption | exact hs_same _ _ _ | exact (hs_ne _ _ (by first | assumption | decide | omega)).trans (by first | assumption | exact hs_same _ _ _ | exact (hs_ne _ _ (by first | assumption | decide | omega)).trans (by first | assumption | exact hs_same _ _ _ | exact (hs_ne _ _ (by first | assumption | decide | omega)).trans (by first | assumption | exact hs_same _ _ _ | exact (hs_ne _ _ (by first | assumption | decide | omega)).trans (by first | assumption | exact hs_same _ _ _))))) rfl (fun v h1 hp => ?_)
      cases hp
      refine gs_if 30 25 a_X5_later__22 rfl rfl (fun c22 => ?_) (fun c22 => ?_)
      · have c22 := (b01_0 _).mp c22
        refine gs_w [(0, .ref 96)] (by simp [ix_nd]) (by intro x hx; simp only [List.mem_cons, List.not_mem_nil, or_false] at hx; rcases hx with rfl <;> rfl) ?_
        exact bad (by unfold isPlF; rw [c22, Bool.and_false]; rfl)
      · have c22 := (b01_ne _).mp c22
        refine gs_n 27 a_X5_later__25 rfl ?_
        refine gs_if 33 30 a_X5_later__27 rfl rfl (fun c27 => ?_) (fun c27 => ?_)
        · have c27 : 0 ≤ o := c27
          have o1 : 0 ≤ o.toInt := by
            rw [Int32.le_iff_toInt_le] at c27
            simpa using c27
          have hpl : isPlF P g p = true := by unfold isPlF; rw [c13, c22]; rfl
          rw [hpl, decide_eq_true o1, Bool.true_and]
          refine gs_n 34 a_X5_later__33 rfl ?_
          refine gs_n 35 a_X5_later__34 rfl ?_
          refine gs_n 36 a_X5_later__35 rfl ?_
          refine gs_cv 39 a_X5_later__36 k_5_158 q_X5_refused (r_refused x e (fun k hk => (T_b hv false k hk).1) w') rfl rfl rfl (by simp [Value.category]) (by first | assumption | exact hs_same _ _ _ | exact (hs_ne _ _ (by first | assumption | decide | omega)).trans (by first | assumption | exact hs_same _ _ _ | exact (hs_ne _ _ (by first | assumption | decide | omega)).trans (by first | assumption | exact hs_same _ _ _ | exact (hs_ne _ _ (by first | assumption | decide | omega)).trans (by first | assumption | exact hs_same _ _ _ | exact (hs_ne _ _ (by first | assumption | decide | omega)).trans (by first | assumption | exact hs_same _ _ _))))) rfl (fun v h1 hp => ?_)
          cases hp
          refine gs_n 41 a_X5_later__39 rfl ?_
          refine gs_n 43 a_X5_later__41 rfl ?_
          refine gs_if 49 46 a_X5_later__43 rfl rfl (fun c43 => ?_) (fun c43 => ?_)
          · have c9 : refF false (tS false P X) x e true = nI 0 := c43
            rw [if_neg (fun q => q c9)]
            obtain ⟨r1, r2, r3, r4, r5⟩ := refF_0 c9
            obtain ⟨rfl, hnd⟩ := s11 rfl
            rw [tS_f] at w' w0 hTR r4 r5
            obtain ⟨hk, hx⟩ := isK_kn r3
            obtain ⟨g1, g2, p1, p2⟩ := isPlF_kn hpl
            have o2 := nI_ofInt o1
            have o3 : kn o < 2 ^ 31 := by have := o.toInt_lt; unfold kn; omega
            change o = nI (kn o) at o2
            generalize hkk : kn x = k at *
            generalize hkg : kn g = gg at *
            generalize hkp : kn p = pp at *
            generalize hko : kn o = oo at *
            subst hx
            subst r5
            subst g2
            subst p2
            subst o2
            obtain ⟨t1, t2, t3, t4, t5⟩ := hTR.k hk
            have hTb := (T_b hv false k hk).2.1
            rw [tS_f] at hTb
            refine gs_n 50 a_X5_later__49 rfl ?_
            refine gs_get 53 a_X5_later__50 f_5_43 (by first | assumption | exact hs_same _ _ _ | exact (hs_ne _ _ (by first | assumption | decide | omega)).trans (by first | assumption | exact hs_same _ _ _ | exact (hs_ne _ _ (by first | assumption | decide | omega)).trans (by first | assumption | exact hs_same _ _ _ | exact (hs_ne _ _ (by first | assumption | decide | omega)).trans (by first | assumption | exact hs_same _ _ _ | exact (hs_ne _ _ (by first | assumption | decide | omega)).trans (by first | assumption | exact hs_same _ _ _))))) rfl rfl ?_
            refine gs_n 54 a_X5_later__53 rfl ?_
            refine gs_ia k 55 a_X5_later__54 (by first | assumption | exact hs_same _ _ _ | exact (hs_ne _ _ (by first | assumption | decide | omega)).trans (by first | assumption | exact hs_same _ _ _ | exact (hs_ne _ _ (by first | assumption | decide | omega)).trans (by first | assumption | exact hs_same _ _ _ | exact (hs_ne _ _ (by first | assumption | decide | omega)).trans (by first | assumption | exact hs_same _ _ _ | exact (hs_ne _ _ (by first | assumption | decide | omega)).trans (by first | assumption | exact hs_same _ _ _))))) rfl (by omega) (by omega) rfl ?_
            rw [t3]
            refine gs_k (-1) 56 a_X5_later__55 (by decide +kernel) rfl ?_
            refine gs_ic 62 59 a_X5_later__56 rfl rfl (fun c20 => ?_) (fun c20 => ?_)
            · have c20 : ¬ m1 ((told P X).2.2.1 k) = -1 := c20
              have z : (told P X).2.2.1 k ≠ 0 := fun q => c20 ((m1_no (by omega)).mpr q)
              rw [if_neg z]
              refine gs_n 63 a_X5_later__62 rfl ?_
              refine gs_k (nI 16) 65 a_X5_later__63 (by decide +kernel) rfl ?_
              refine gs_n 66 a_X5_later__65 rfl ?_
              refine gs_cv 69 a_X5_later__66 k_5_147 q_X5_opened (r_opened (fun k hk => (T_b hv false k hk).2.1) w') rfl rfl rfl (by simp [Value.category]) (by first | assumption | exact hs_same _ _ _ | exact (hs_ne _ _ (by first | assumption | decide | omega)).trans (by first | assumption | exact hs_same _ _ _ | exact (hs_ne _ _ (by first | assumption | decide | omega)).trans (by first | assumption | exact hs_same _ _ _ | exact (hs_ne _ _ (by first | assumption | decide | omega)).trans (by first | assumption | exact hs_same _ _ _ | exact (hs_ne _ _ (by first | assumption | decide | omega)).trans (by first | assumption | exact hs_same _ _ _))))) rfl (fun v h1 hp => ?_)
              cases hp
              refine gs_cv 72 a_X5_later__69 k_5_151 q_X5_bookHas (r_bookHas 16 (cntO (told P X)) (by omega) (by have := cntO_le (told P X); omega) s2 w') rfl rfl rfl (by simp [Value.category]) (by first | assumption | exact hs_same _ _ _ | exact (hs_ne _ _ (by first | assumption | decide | omega)).trans (by first | assumption | exact hs_same _ _ _ | exact (hs_ne _ _ (by first | assumption | decide | omega)).trans (by first | assumption | exact hs_same _ _ _ | exact (hs_ne _ _ (by first | assumption | decide | omega)).trans (by first | assumption | exact hs_same _ _ _ | exact (hs_ne _ _ (by first | assumption | decide | omega)).trans (by first | assumption | exact hs_same _ _ _))))) rfl (fun v h1 hp => ?_)
              cases hp
              rw [bk_eq0 (told_n hv)]
              refine gs_if 78 75 a_X5_later__72 rfl rfl (fun c34 => ?_) (fun c34 => ?_)
              · have c34 := (b01_ne _).mp c34
                rw [if_neg (by rw [c34]; simp)]
                have hrm := room_sm hnd c34
                have hlen := len42 s2 s4 hv
                obtain ⟨n, ep, tx, bg, ba, ad, lc, de, mq, nx, la, en, hT⟩ := told_ex P X
                have hg : GT P cap X (n, ep, tx, bg, ba, ad, lc, de, mq, nx, la, en) := hT ▸ pv_all hv
                rw [hT] at w' w0 z r4 hrm ⊢
                simp only at z r4 hrm w0 ⊢
                have hb := pv_later s2 hv hT hk z (a := 8 * gg + pp) (b := oo) (by omega) o3 (by omega)
                have h3 := (hg.1.2.2.2.2.1 k hk).1
                have hla := hg.1.2.2.1
                rw [m1_p r4]
                refine gs_n 79 a_X5_later__78 rfl ?_
                refine gs_n 80 a_X5_later__79 rfl ?_
                refine gs_get 83 a_X5_later__80 f_5_87 (by first | assumption | exact hs_same _ _ _ | exact (hs_ne _ _ (by first | assumption | decide | omega)).trans (by first | assumption | exact hs_same _ _ _ | exact (hs_ne _ _ (by first | assumption | decide | omega)).trans (by first | assumption | exact hs_same _ _ _ | exact (hs_ne _ _ (by first | assumption | decide | omega)).trans (by first | assumption | exact hs_same _ _ _ | exact (hs_ne _ _ (by first | assumption | decide | omega)).trans (by first | assumption | exact hs_same _ _ _))))) rfl rfl ?_
                refine gs_k (nI 3) 84 a_X5_later__83 (by decide +kernel) rfl ?_
                refine gs_n 85 a_X5_later__84 rfl ?_
                refine gs_n 86 a_X5_later__85 rfl ?_
                refine gs_k (nI 8) 88 a_X5_later__86 (by decide +kernel) rfl ?_
                refine gs_n 89 a_X5_later__88 rfl ?_
                refine gs_n 90 a_X5_later__89 rfl ?_
                refine gs_n 92 a_X5_later__90 rfl ?_
                refine gs_n 93 a_X5_later__92 rfl ?_
                refine gs_n 95 a_X5_later__93 rfl ?_
                rw [pk_mul, nI_add]
                refine gs_cv 98 a_X5_later__95 k_5_129 q_X5_add (r_add P 3 k (ep k - 1) (8 * gg + pp) oo (by omega) (okE_book s2 (by omega) hk (by omega) (by omega) (by omega) (by omega)).1 w') rfl rfl rfl (by simp [Value.category]) (by first | assumption | exact hs_same _ _ _ | exact (hs_ne _ _ (by first | assumption | decide | omega)).trans (by first | assumption | exact hs_same _ _ _ | exact (hs_ne _ _ (by first | assumption | decide | omega)).trans (by first | assumption | exact hs_same _ _ _ | exact (hs_ne _ _ (by first | assumption | decide | omega)).trans (by first | assumption | exact hs_same _ _ _ | exact (hs_ne _ _ (by first | assumption | decide | omega)).trans (by first | assumption | exact hs_same _ _ _))))) rfl (fun v h2 hp => ?_)
                obtain ⟨e1, hF1, w3'⟩ := hp
                simp only at e1
                subst e1
                obtain ⟨ar3, wm3, -, -, hTR3, -, -⟩ := w3'.un
                obtain ⟨v0, v1, v2, v3, v4, v5, v6, v7, v8, v9, v10, v11, -⟩ := wm3
                simp only [mcell] at v0
                have h6 := (hTR3.k hk).2.2.1
                rw [show (n, ep, tx, bg, ba, ad, lc, de, mq, nx, la, en).2.2.1 k = tx k from rfl, m1_p z] at h6
                refine gs_n 100 a_X5_later__98 rfl ?_
                refine gs_n 101 a_X5_later__100 rfl ?_
                refine gs_n 102 a_X5_later__101 rfl ?_
                refine gs_get 105 a_X5_later__102 f_5_43 (by first | assumption | exact hs_same _ _ _ | exact (hs_ne _ _ (by first | assumption | decide | omega)).trans (by first | assumption | exact hs_same _ _ _ | exact (hs_ne _ _ (by first | assumption | decide | omega)).trans (by first | assumption | exact hs_same _ _ _ | exact (hs_ne _ _ (by first | assumption | decide | omega)).trans (by first | assumption | exact hs_same _ _ _ | exact (hs_ne _ _ (by first | assumption | decide | omega)).trans (by first | assumption | exact hs_same _ _ _))))) rfl rfl ?_
                refine gs_n 106 a_X5_later__105 rfl ?_
                refine gs_ia k 107 a_X5_later__106 (by first | assumption | exact hs_same _ _ _ | exact (hs_ne _ _ (by first | assumption | decide | omega)).trans (by first | assumption | exact hs_same _ _ _ | exact (hs_ne _ _ (by first | assumption | decide | omega)).trans (by first | assumption | exact hs_same _ _ _ | exact (hs_ne _ _ (by first | assumption | decide | omega)).trans (by first | assumption | exact hs_same _ _ _ | exact (hs_ne _ _ (by first | assumption | decide | omega)).trans (by first | assumption | exact hs_same _ _ _))))) rfl (by omega) (by omega) rfl ?_
                rw [h6]
                refine gs_k (nI 8) 109 a_X5_later__107 (by decide +kernel) rfl ?_
                refine gs_n 110 a_X5_later__109 rfl ?_
                refine gs_n 111 a_X5_later__110 rfl ?_
                refine gs_n 113 a_X5_later__111 rfl ?_
                refine gs_n 114 a_X5_later__113 rfl ?_
                refine gs_n 116 a_X5_later__114 rfl ?_
                rw [pk_mul, nI_add]
                refine gs_cv 119 a_X5_later__116 k_5_188 q_X5_later (r_lat (by omega) w3') rfl rfl rfl (by simp [Value.category]) (by first | assumption | exact hs_same _ _ _ | exact (hs_ne _ _ (by first | assumption | decide | omega)).trans (by first | assumption | exact hs_same _ _ _ | exact (hs_ne _ _ (by first | assumption | decide | omega)).trans (by first | assumption | exact hs_same _ _ _ | exact (hs_ne _ _ (by first | assumption | decide | omega)).trans (by first | assumption | exact hs_same _ _ _ | exact (hs_ne _ _ (by first | assumption | decide | omega)).trans (by first | assumption | exact hs_same _ _ _))))) rfl (fun v h3 hp => ?_)
                obtain ⟨e1, hF2, w4'⟩ := hp
                simp only at e1
                subst e1
                refine gs_k (nI 0) 120 a_X5_later__119 (by decide +kernel) rfl ?_
                refine gs_iret a_X5_later__120 rfl rfl ?_
                refine ⟨rfl, hF1.trans hF2, ?_⟩
                show RE h3 P cap tmo clk false cut _ sy 0 tE tp an (tS false P _)
                rw [tS_f, hb.2]
                exact w4'
              · have c34 : bkF (told P X) 0 = false := (b01_0 _).mp (Classical.byContradiction c34)
                rw [if_pos c34]
                refine gs_k (-8) 77 a_X5_later__75 (by decide +kernel) rfl ?_
                refine gs_iret a_X5_later__77 rfl rfl ?_
                exact ⟨rfl, FS.rf _ _, w⟩
            · have c20 : m1 ((told P X).2.2.1 k) = -1 := Classical.byContradiction c20
              have z := (m1_no (by omega)).mp c20
              rw [if_pos z]
              refine gs_k (-5) 61 a_X5_later__59 (by decide +kernel) rfl ?_
              refine gs_iret a_X5_later__61 rfl rfl ?_
              exact ⟨rfl, FS.rf _ _, w⟩
          · rw [if_pos (show refF false (tS false P X) x e true ≠ nI 0 from c43)]
            refine gs_n 48 a_X5_later__46 rfl ?_
            refine gs_iret a_X5_later__48 rfl rfl ?_
            exact ⟨rfl, FS.rf _ _, w⟩
        · have c27 : ¬ 0 ≤ o := c27
          have o1 : ¬ 0 ≤ o.toInt := by
            rw [Int32.le_iff_toInt_le] at c27
            simpa using c27
          refine gs_w [(0, .ref 96)] (by simp [ix_nd]) (by intro x hx; simp only [List.mem_cons, List.not_mem_nil, or_false] at hx; rcases hx with rfl <;> rfl) ?_
          exact bad (by rw [decide_eq_false o1, Bool.and_false])
  · have c4 := (b01_ne _).mp c4
    subst c4
    rw [show refF true (tS true P X) x e (isPlF P g p && decide (0 ≤ o.toInt)) = -1 from rfl, if_pos (by decide +kernel)]
    refine gs_k (-1) 8 a_X5_later__7 (by decide +kernel) rfl ?_
    refine gs_iret a_X5_later__8 rfl rfl ?_
    exact ⟨rfl, FS.rf _ _, w⟩
theorem r_mark (g p o : Int32) (hs : SI (P, cap, tmo, clk, cl, cut, X, sy, torn, tE, tp, an)) (w : RS h (P, cap, tmo, clk, cl, cut, X, sy, torn, tE, tp, an)) : ev (d + 4) n_X5_mark [.ref 96, .int g, .int p, .int o] h (fun u => u.1 = some (.int (F_mark (P, cap, tmo, clk, cl, cut, X, sy, torn, tE, tp, an) g p o).1) ∧ FS cM h u.2 ∧ RS u.2 (F_mark (P, cap, tmo, clk, cl, cut, X, sy, torn, tE, tp, an) g p o).2) := by
  obtain ⟨s1, s2, s3, s4, s5, s6, s7, s8, s9, hv, s11, -⟩ := hs
  have w' : RE h P cap tmo clk cl cut X sy torn tE tp an (tS cl P X) := w
  have w0 := w'.obj
  simp only [mcell] at w0
  simp only [F_mark]
  refine ev_of q_X5_mark (Nat.le_of_ble_eq_true rfl) ?_
  refine gs_n 1 a_X5_mark_0 rfl ?_
  refine gs_get 4 a_X5_mark_1 f_5_99 (by first | assumption | exact hs_same _ _ _ | exact (hs_ne _ _ (by first | assumption | decide | omega)).trans (by first | assumption | exact hs_same _ _ _ | exact (hs_ne _ _ (by first | assumption | decide | omega)).trans (by first | assumption | exact hs_same _ _ _ | exact (hs_ne _ _ (by first | assumption | decide | omega)).trans (by first | assumption | exact hs_same _ _ _ | exact (hs_ne _ _ (by first | assumption | decide | omega)).trans (by first | assumption | exact hs_same _ _ _))))) rfl rfl ?_
  refine gs_if 9 7 a_X5_mark_4 rfl rfl (fun c4 => ?_) (fun c4 => ?_)
  · have c4 := (b01_0 _).mp c4
    subst c4
    obtain ⟨rfl, hnd⟩ := s11 rfl
    rw [tS_f] at w' w0
    simp only [Bool.false_eq_true, if_false]
    refine gs_n 10 a_X5_mark_9 rfl ?_
    refine gs_cs 13 a_X5_mark_10 k_5_181 q_X5_isGroup (r_isGroup g) rfl rfl rfl (by simp [Value.category]) rfl (fun v h1 hp => ?_)
    cases hp
    refine gs_if 28 16 a_X5_mark_13 rfl rfl (fun c13 => ?_) (fun c13 => ?_)
    · have c13 := (b01_0 _).mp c13
      rw [if_pos (by unfold isPlF; rw [c13]; rfl)]
      refine gs_k (-2) 30 a_X5_mark_28 (by decide +kernel) rfl ?_
      refine gs_iret a_X5_mark_30 rfl rfl ?_
      exact ⟨rfl, FS.rf _ _, w⟩
    · have c13 := (b01_ne _).mp c13
      refine gs_n 17 a_X5_mark_16 rfl ?_
      refine gs_n 18 a_X5_mark_17 rfl ?_
      refine gs_cv 21 a_X5_mark_18 k_5_185 q_X5_isPartition (r_isPart p s2 w') rfl rfl rfl (by simp [Value.category]) (by first | assumption | exact hs_same _ _ _ | exact (hs_ne _ _ (by first | assumption | decide | omega)).trans (by first | assumption | exact hs_same _ _ _ | exact (hs_ne _ _ (by first | assumption | decide | omega)).trans (by first | assumption | exact hs_same _ _ _ | exact (hs_ne _ _ (by first | assumption | decide | omega)).trans (by first | assumption | exact hs_same _ _ _ | exact (hs_ne _ _ (by first | assumption | decide | omega)).trans (by first | assumption | exact hs_same _ _ _))))) rfl (fun v h1 hp => ?_)
      cases hp
      refine gs_if 28 24 a_X5_mark_21 rfl rfl (fun c22 => ?_) (fun c22 => ?_)
      · have c22 := (b01_0 _).mp c22
        rw [if_pos (by unfold isPlF; rw [c22, Bool.and_false]; rfl)]
        refine gs_k (-2) 30 a_X5_mark_28 (by decide +kernel) rfl ?_
        refine gs_iret a_X5_mark_30 rfl rfl ?_
        exact ⟨rfl, FS.rf _ _, w⟩
      · have c22 := (b01_ne _).mp c22
        refine gs_n 25 a_X5_mark_24 rfl ?_
        refine gs_if 31 28 a_X5_mark_25 rfl rfl (fun c27 => ?_) (fun c27 => ?_)
        · have c27 : 0 ≤ o := c27
          have o1 : 0 ≤ o.toInt := by
            rw [Int32.le_iff_toInt_le] at c27
            simpa using c27
          have hpl : isPlF P g p = true := by unfold isPlF; rw [c13, c22]; rfl
          rw [if_neg (by rw [hpl, decide_eq_true o1]; simp)]
          obtain ⟨g1, g2, p1, p2⟩ := isPlF_kn hpl
          have o2 := nI_ofInt o1
          have o3 : kn o < 2 ^ 31 := by have := o.toInt_lt; unfold kn; omega
          change o = nI (kn o) at o2
          generalize hkg : kn g = gg at *
          generalize hkp : kn p = pp at *
          generalize hko : kn o = oo at *
          subst g2
          subst p2
          subst o2
          refine gs_n 32 a_X5_mark_31 rfl ?_
          refine gs_k (nI 16) 34 a_X5_mark_32 (by decide +kernel) rfl ?_
          refine gs_n 35 a_X5_mark_34 rfl ?_
          refine gs_cv 38 a_X5_mark_35 k_5_147 q_X5_opened (r_opened (fun k hk => (T_b hv false k hk).2.1) w') rfl rfl rfl (by simp [Value.category]) (by first | assumption | exact hs_same _ _ _ | exact (hs_ne _ _ (by first | assumption | decide | omega)).trans (by first | assumption | exact hs_same _ _ _ | exact (hs_ne _ _ (by first | assumption | decide | omega)).trans (by first | assumption | exact hs_same _ _ _ | exact (hs_ne _ _ (by first | assumption | decide | omega)).trans (by first | assumption | exact hs_same _ _ _ | exact (hs_ne _ _ (by first | assumption | decide | omega)).trans (by first | assumption | exact hs_same _ _ _))))) rfl (fun v h1 hp => ?_)
          cases hp
          refine gs_cv 41 a_X5_mark_38 k_5_151 q_X5_bookHas (r_bookHas 16 (cntO (told P X)) (by omega) (by have := cntO_le (told P X); omega) s2 w') rfl rfl rfl (by simp [Value.category]) (by first | assumption | exact hs_same _ _ _ | exact (hs_ne _ _ (by first | assumption | decide | omega)).trans (by first | assumption | exact hs_same _ _ _ | exact (hs_ne _ _ (by first | assumption | decide | omega)).trans (by first | assumption | exact hs_same _ _ _ | exact (hs_ne _ _ (by first | assumption | decide | omega)).trans (by first | assumption | exact hs_same _ _ _ | exact (hs_ne _ _ (by first | assumption | decide | omega)).trans (by first | assumption | exact hs_same _ _ _))))) rfl (fun v h1 hp => ?_)
          cases hp
          rw [bk_eq0 (told_n hv)]
          refine gs_if 47 44 a_X5_mark_41 rfl rfl (fun c34 => ?_) (fun c34 => ?_)
          · have c34 := (b01_ne _).mp c34
            rw [if_neg (by rw [c34]; simp)]
            have hrm := room_sm hnd c34
            have hlen := len42 s2 s4 hv
            obtain ⟨n, ep, tx, bg, ba, ad, lc, de, mq, nx, la, en, hT⟩ := told_ex P X
            have hg : GT P cap X (n, ep, tx, bg, ba, ad, lc, de, mq, nx, la, en) := hT ▸ pv_all hv
            rw [hT] at w' w0 hrm
            simp only at hrm w0
            have hb := pv_mark s2 hv hT (a := 8 * gg + pp) (b := oo) (by omega) o3 (by omega)
            refine gs_n 48 a_X5_mark_47 rfl ?_
            refine gs_n 49 a_X5_mark_48 rfl ?_
            refine gs_get 52 a_X5_mark_49 f_5_87 (by first | assumption | exact hs_same _ _ _ | exact (hs_ne _ _ (by first | assumption | decide | omega)).trans (by first | assumption | exact hs_same _ _ _ | exact (hs_ne _ _ (by first | assumption | decide | omega)).trans (by first | assumption | exact hs_same _ _ _ | exact (hs_ne _ _ (by first | assumption | decide | omega)).trans (by first | assumption | exact hs_same _ _ _ | exact (hs_ne _ _ (by first | assumption | decide | omega)).trans (by first | assumption | exact hs_same _ _ _))))) rfl rfl ?_
            refine gs_k (nI 6) 54 a_X5_mark_52 (by decide +kernel) rfl ?_
            refine gs_k (nI 0) 55 a_X5_mark_54 (by decide +kernel) rfl ?_
            refine gs_k (nI 0) 56 a_X5_mark_55 (by decide +kernel) rfl ?_
            refine gs_k (nI 8) 58 a_X5_mark_56 (by decide +kernel) rfl ?_
            refine gs_n 59 a_X5_mark_58 rfl ?_
            refine gs_n 60 a_X5_mark_59 rfl ?_
            refine gs_n 61 a_X5_mark_60 rfl ?_
            refine gs_n 62 a_X5_mark_61 rfl ?_
            refine gs_n 63 a_X5_mark_62 rfl ?_
            rw [pk_mul, nI_add]
            refine gs_cv 66 a_X5_mark_63 k_5_129 q_X5_add (r_add P 6 0 0 (8 * gg + pp) oo (by omega) (okE_book s2 (by omega) (by omega) (by omega) (by omega) (by omega) (by omega)).1 w') rfl rfl rfl (by simp [Value.category]) (by first | assumption | exact hs_same _ _ _ | exact (hs_ne _ _ (by first | assumption | decide | omega)).trans (by first | assumption | exact hs_same _ _ _ | exact (hs_ne _ _ (by first | assumption | decide | omega)).trans (by first | assumption | exact hs_same _ _ _ | exact (hs_ne _ _ (by first | assumption | decide | omega)).trans (by first | assumption | exact hs_same _ _ _ | exact (hs_ne _ _ (by first | assumption | decide | omega)).trans (by first | assumption | exact hs_same _ _ _))))) rfl (fun v h2 hp => ?_)
            obtain ⟨e1, hF1, w3'⟩ := hp
            simp only at e1
            subst e1
            obtain ⟨ar3, wm3, hE3, htn3, hTR3, h183, h193⟩ := w3'.un
            have wd := wm3.s13 (upd (ar3 13) (8 * gg + pp) (nI oo))
            obtain ⟨v0, v1, v2, v3, v4, v5, v6, v7, v8, v9, v10, v11, v12, v13, v14, -⟩ := wm3
            simp only [mcell] at v0
            refine gs_n 68 a_X5_mark_66 rfl ?_
            refine gs_n 69 a_X5_mark_68 rfl ?_
            refine gs_get 72 a_X5_mark_69 f_5_52 (by first | assumption | exact hs_same _ _ _ | exact (hs_ne _ _ (by first | assumption | decide | omega)).trans (by first | assumption | exact hs_same _ _ _ | exact (hs_ne _ _ (by first | assumption | decide | omega)).trans (by first | assumption | exact hs_same _ _ _ | exact (hs_ne _ _ (by first | assumption | decide | omega)).trans (by first | assumption | exact hs_same _ _ _ | exact (hs_ne _ _ (by first | assumption | decide | omega)).trans (by first | assumption | exact hs_same _ _ _))))) rfl rfl ?_
            refine gs_k (nI 8) 74 a_X5_mark_72 (by decide +kernel) rfl ?_
            refine gs_n 75 a_X5_mark_74 rfl ?_
            refine gs_n 76 a_X5_mark_75 rfl ?_
            refine gs_n 77 a_X5_mark_76 rfl ?_
            refine gs_n 78 a_X5_mark_77 rfl ?_
            refine gs_n 79 a_X5_mark_78 rfl ?_
            rw [pk_mul, nI_add]
            refine gs_is (8 * gg + pp) 80 a_X5_mark_79 (by first | assumption | exact hs_same _ _ _ | exact (hs_ne _ _ (by first | assumption | decide | omega)).trans (by first | assumption | exact hs_same _ _ _ | exact (hs_ne _ _ (by first | assumption | decide | omega)).trans (by first | assumption | exact hs_same _ _ _ | exact (hs_ne _ _ (by first | assumption | decide | omega)).trans (by first | assumption | exact hs_same _ _ _ | exact (hs_ne _ _ (by first | assumption | decide | omega)).trans (by first | assumption | exact hs_same _ _ _))))) rfl (by omega) (by omega) rfl ?_
            refine gs_k (nI 0) 81 a_X5_mark_80 (by decide +kernel) rfl ?_
            refine gs_iret a_X5_mark_81 rfl rfl ?_
            refine ⟨rfl, hF1.trans (FS.m _ (by omega)), ?_⟩
            show RE _ P cap tmo clk false cut _ sy 0 tE tp an (tS false P _)
            rw [tS_f, hb.2]
            refine RE.mk' wd ?_ (fun z => absurd z (by omega)) ?_ h183 h193
            · obtain ⟨q1, q2, q3⟩ := hE3
              exact ⟨q1, q2, q3⟩
            · obtain ⟨u1, u2, u3, u4⟩ := hTR3
              refine ⟨u1, ?_, u3, u4⟩
              intro i hi
              show upd (ar3 13) (8 * gg + pp) (nI oo) i = _
              by_cases z : i = 8 * gg + pp
              · subst z; rw [upd_s, va_up_self, m1_s]
              · rw [upd_n z, va_up_ne _ _ z]; exact u2 i hi
          · have c34 : bkF (told P X) 0 = false := (b01_0 _).mp (Classical.byContradiction c34)
            rw [if_pos c34]
            refine gs_k (-8) 46 a_X5_mark_44 (by decide +kernel) rfl ?_
            refine gs_iret a_X5_mark_46 rfl rfl ?_
            exact ⟨rfl, FS.rf _ _, w⟩
        · have c27 : ¬ 0 ≤ o := c27
          have o1 : ¬ 0 ≤ o.toInt := by
            rw [Int32.le_iff_toInt_le] at c27
            simpa using c27
          rw [if_pos (by rw [decide_eq_false o1, Bool.and_false])]
          refine gs_k (-2) 30 a_X5_mark_28 (by decide +kernel) rfl ?_
          refine gs_iret a_X5_mark_30 rfl rfl ?_
          exact ⟨rfl, FS.rf _ _, w⟩
  · have c4 := (b01_ne _).mp c4
    rw [if_pos c4]
    refine gs_k (-1) 8 a_X5_mark_7 (by decide +kernel) rfl ?_
    refine gs_iret a_X5_mark_8 rfl rfl ?_
    exact ⟨rfl, FS.rf _ _, w⟩
theorem r_marked (g p : Int32) (hs : SI (P, cap, tmo, clk, cl, cut, X, sy, torn, tE, tp, an)) (w : RS h (P, cap, tmo, clk, cl, cut, X, sy, torn, tE, tp, an)) : ev (d + 2) n_X5_marked [.ref 96, .int g, .int p] h (fun u => u = (some (.int (F_marked (P, cap, tmo, clk, cl, cut, X, sy, torn, tE, tp, an) g p)), h)) := by
  obtain ⟨s1, s2, s3, s4, s5, s6, s7, s8, s9, hv, s11, -⟩ := hs
  have w' : RE h P cap tmo clk cl cut X sy torn tE tp an (tS cl P X) := w
  obtain ⟨ar, wm, hE, -, hTR, -, -⟩ := w'.un
  obtain ⟨w0, w1, w2, w3, w4, w5, w6, w7, w8, w9, w10, w11, w12, w13, w14, -⟩ := wm
  simp only [mcell] at w0
  simp only [F_marked]
  refine ev_of q_X5_marked (Nat.le_of_ble_eq_true rfl) ?_
  refine gs_n 1 a_X5_marked_0 rfl ?_
  refine gs_get 4 a_X5_marked_1 f_5_99 (by first | assumption | exact hs_same _ _ _ | exact (hs_ne _ _ (by first | assumption | decide | omega)).trans (by first | assumption | exact hs_same _ _ _ | exact (hs_ne _ _ (by first | assumption | decide | omega)).trans (by first | assumption | exact hs_same _ _ _ | exact (hs_ne _ _ (by first | assumption | decide | omega)).trans (by first | assumption | exact hs_same _ _ _ | exact (hs_ne _ _ (by first | assumption | decide | omega)).trans (by first | assumption | exact hs_same _ _ _))))) rfl rfl ?_
  refine gs_if 22 7 a_X5_marked_4 rfl rfl (fun c4 => ?_) (fun c4 => ?_)
  · have c4 := (b01_ne _).mp c4
    refine gs_k (-1) 23 a_X5_marked_22 (by decide +kernel) rfl ?_
    refine gs_n 37 a_X5_marked_23 rfl ?_
    refine gs_iret a_X5_marked_37 rfl rfl ?_
    rw [c4, if_pos (by simp)]
  · have c4 : cl = false := (b01_0 _).mp (Classical.byContradiction c4)
    subst c4
    rw [tS_f] at hTR
    refine gs_n 8 a_X5_marked_7 rfl ?_
    refine gs_cs 11 a_X5_marked_8 k_5_181 q_X5_isGroup (r_isGroup g) rfl rfl rfl (by simp [Value.category]) rfl (fun v h1 hp => ?_)
    cases hp
    refine gs_if 22 14 a_X5_marked_11 rfl rfl (fun c11 => ?_) (fun c11 => ?_)
    · have c11 := (b01_0 _).mp c11
      refine gs_k (-1) 23 a_X5_marked_22 (by decide +kernel) rfl ?_
      refine gs_n 37 a_X5_marked_23 rfl ?_
      refine gs_iret a_X5_marked_37 rfl rfl ?_
      rw [if_pos (by unfold isPlF; rw [c11]; rfl)]
    · have c11 := (b01_ne _).mp c11
      refine gs_n 15 a_X5_marked_14 rfl ?_
      refine gs_n 16 a_X5_marked_15 rfl ?_
      refine gs_cv 19 a_X5_marked_16 k_5_185 q_X5_isPartition (r_isPart p s2 w') rfl rfl rfl (by simp [Value.category]) (by first | assumption | exact hs_same _ _ _ | exact (hs_ne _ _ (by first | assumption | decide | omega)).trans (by first | assumption | exact hs_same _ _ _ | exact (hs_ne _ _ (by first | assumption | decide | omega)).trans (by first | assumption | exact hs_same _ _ _ | exact (hs_ne _ _ (by first | assumption | decide | omega)).trans (by first | assumption | exact hs_same _ _ _ | exact (hs_ne _ _ (by first | assumption | decide | omega)).trans (by first | assumption | exact hs_same _ _ _))))) rfl (fun v h1 hp => ?_)
      cases hp
      refine gs_if 26 22 a_X5_marked_19 rfl rfl (fun c19 => ?_) (fun c19 => ?_)
      · have c19 := (b01_ne _).mp c19
        have hpl : isPlF P g p = true := by unfold isPlF; rw [c11, c19]; rfl
        rw [if_neg (by rw [hpl]; simp)]
        obtain ⟨g1, g2, p1, p2⟩ := isPlF_kn hpl
        generalize hkg : kn g = gg at *
        generalize hkp : kn p = pp at *
        subst g2
        subst p2
        refine gs_n 27 a_X5_marked_26 rfl ?_
        refine gs_get 30 a_X5_marked_27 f_5_52 (by first | assumption | exact hs_same _ _ _ | exact (hs_ne _ _ (by first | assumption | decide | omega)).trans (by first | assumption | exact hs_same _ _ _ | exact (hs_ne _ _ (by first | assumption | decide | omega)).trans (by first | assumption | exact hs_same _ _ _ | exact (hs_ne _ _ (by first | assumption | decide | omega)).trans (by first | assumption | exact hs_same _ _ _ | exact (hs_ne _ _ (by first | assumption | decide | omega)).trans (by first | assumption | exact hs_same _ _ _))))) rfl rfl ?_
        refine gs_k (nI 8) 32 a_X5_marked_30 (by decide +kernel) rfl ?_
        refine gs_n 33 a_X5_marked_32 rfl ?_
        refine gs_n 34 a_X5_marked_33 rfl ?_
        refine gs_n 35 a_X5_marked_34 rfl ?_
        refine gs_n 36 a_X5_marked_35 rfl ?_
        rw [pk_mul, nI_add]
        refine gs_ia (8 * gg + pp) 37 a_X5_marked_36 (by first | assumption | exact hs_same _ _ _ | exact (hs_ne _ _ (by first | assumption | decide | omega)).trans (by first | assumption | exact hs_same _ _ _ | exact (hs_ne _ _ (by first | assumption | decide | omega)).trans (by first | assumption | exact hs_same _ _ _ | exact (hs_ne _ _ (by first | assumption | decide | omega)).trans (by first | assumption | exact hs_same _ _ _ | exact (hs_ne _ _ (by first | assumption | decide | omega)).trans (by first | assumption | exact hs_same _ _ _))))) rfl (by omega) (by omega) rfl ?_
        rw [hTR.m (by omega)]
        refine gs_iret a_X5_marked_37 rfl rfl ?_
        rfl
      · have c19 : isPn P p = false := (b01_0 _).mp (Classical.byContradiction c19)
        refine gs_k (-1) 23 a_X5_marked_22 (by decide +kernel) rfl ?_
        refine gs_n 37 a_X5_marked_23 rfl ?_
        refine gs_iret a_X5_marked_37 rfl rfl ?_
        rw [if_pos (by unfold isPlF; rw [c19, Bool.and_false]; rfl)]
end R5
