/-! The reference: register, begin, end, later, mark, marked -/
section R4
variable {d : Nat} {h : ix_H} {P cap tmo clk cut sy torn : Nat} {cl : Bool} {X : List En} {tE : En} {tp an : List Nat} {n nx : Nat} {ep tx bg ba lc de mq en : Nat → Nat} {ad : Nat → Int32} {la : List (Nat × Nat × Nat)} {T : TS} {s : MS} {ar : Nat → Nat → Int32}
theorem bk_eq0 (hn : T.1 = (fl P X).length) : decide (sumOn (szF P P) X + 16 + 48 * cntO T ≤ 16000) = bkF T 0 := by
  simp only [bkF, Nat.add_zero]
  rw [hn, bytesB_sum]
theorem cntO_le (T : TS) : cntO T ≤ 32 := cnt_le _ _
theorem r_register (x : Int32) (hs : SI (P, cap, tmo, clk, cl, cut, X, sy, torn, tE, tp, an)) (w : RS h (P, cap, tmo, clk, cl, cut, X, sy, torn, tE, tp, an)) : ev (d + 5) n_X5_register [.ref 96, .int x] h (fun u => u.1 = some (.int (F_register (P, cap, tmo, clk, cl, cut, X, sy, torn, tE, tp, an) x).1) ∧ FS cM h u.2 ∧ RS u.2 (F_register (P, cap, tmo, clk, cl, cut, X, sy, torn, tE, tp, an) x).2) := by
  obtain ⟨s1, s2, s3, s4, s5, s6, s7, s8, s9, hv, s11, -⟩ := hs
  have w' : RE h P cap tmo clk cl cut X sy torn tE tp an (tS cl P X) := w
  obtain ⟨ar, wm, hE, -, hTR, -, -⟩ := w'.un
  obtain ⟨w0, w1, w2, w3, w4, w5, w6, w7, w8, w9, w10, w11, w12, w13, -⟩ := wm
  simp only [mcell] at w0
  simp only [F_register]
  refine ev_of q_X5_register (Nat.le_of_ble_eq_true rfl) ?_
  refine gs_n 1 a_X5_register_0 rfl ?_
  refine gs_get 4 a_X5_register_1 f_5_99 (by first | assumption | exact hs_same _ _ _ | exact (hs_ne _ _ (by first | assumption | decide | omega)).trans (by first | assumption | exact hs_same _ _ _ | exact (hs_ne _ _ (by first | assumption | decide | omega)).trans (by first | assumption | exact hs_same _ _ _ | exact (hs_ne _ _ (by first | assumption | decide | omega)).trans (by first | assumption | exact hs_same _ _ _ | exact (hs_ne _ _ (by first | assumption | decide | omega)).trans (by first | assumption | exact hs_same _ _ _))))) rfl rfl ?_
  refine gs_if 9 7 a_X5_register_4 rfl rfl (fun c4 => ?_) (fun c4 => ?_)
  · have c4 := (b01_0 _).mp c4
    subst c4
    obtain ⟨rfl, hnd⟩ := s11 rfl
    rw [tS_f] at w' hTR
    simp only [Bool.false_eq_true, if_false]
    refine gs_n 10 a_X5_register_9 rfl ?_
    refine gs_if 19 13 a_X5_register_10 rfl rfl (fun c10 => ?_) (fun c10 => ?_)
    · have c10 : x < 0 := c10
      rw [lt0_iff] at c10
      rw [if_pos (show isK x = false by unfold isK; exact decide_eq_false (by omega))]
      refine gs_k (-2) 21 a_X5_register_19 (by decide +kernel) rfl ?_
      refine gs_iret a_X5_register_21 rfl rfl ?_
      exact ⟨rfl, FS.rf _ _, w⟩
    · have c10 : ¬ x < 0 := c10
      rw [lt0_iff] at c10
      refine gs_n 14 a_X5_register_13 rfl ?_
      refine gs_k (nI 31) 16 a_X5_register_14 (by decide +kernel) rfl ?_
      refine gs_ic 22 19 a_X5_register_16 rfl rfl (fun c16 => ?_) (fun c16 => ?_)
      · have c16 : x ≤ nI 31 := c16
        rw [le_lit (by omega)] at c16
        have hisK : isK x = true := by unfold isK; exact decide_eq_true (by omega)
        rw [if_neg (by rw [hisK]; simp)]
        obtain ⟨hk, hx⟩ := isK_kn hisK
        generalize hkk : kn x = k at *
        subst hx
        obtain ⟨t1, t2, t3, t4, t5⟩ := hTR.k hk
        have hTb := (T_b hv false k hk).2.1
        rw [tS_f] at hTb
        have last : ∀ (Y : List En) (h2 : ix_H), FS cM h h2 → pv P cap Y → (told P Y).2.2.1 k = 0 → (told P Y).2.1 k = (told P X).2.1 k → 16 * (told P Y).1 + 16 + sm (res (told P Y).2.2.1 (told P Y).2.2.2.2.2.2.2.1) 32 ≤ 16000 → RE h2 P cap tmo clk false cut Y sy 0 tE tp an (told P Y) → gs none (d + 4) mD_X5_register (57, [(0, .ref 96), (1, .int (nI k))], [], h2) (fun u => u.1 = some (.int (nI ((told P X).2.1 k))) ∧ FS cM h u.2 ∧ RS u.2 (P, cap, tmo, clk, false, cut, regX P Y k, sy, 0, tE, tp, an)) := by
          intro Y h2 hF2 hv2 ht2 he2 hr2 w2
          have k1 := w2.obj
          simp only [mcell] at k1
          refine gs_n 58 a_X5_register_57 rfl ?_
          refine gs_n 59 a_X5_register_58 rfl ?_
          refine gs_cv 62 a_X5_register_59 k_5_155 q_X5_registers (r_regX hk s2 s4 hv2 ht2 hr2 w2) rfl rfl rfl (by simp [Value.category]) (by first | assumption | exact hs_same _ _ _ | exact (hs_ne _ _ (by first | assumption | decide | omega)).trans (by first | assumption | exact hs_same _ _ _ | exact (hs_ne _ _ (by first | assumption | decide | omega)).trans (by first | assumption | exact hs_same _ _ _ | exact (hs_ne _ _ (by first | assumption | decide | omega)).trans (by first | assumption | exact hs_same _ _ _ | exact (hs_ne _ _ (by first | assumption | decide | omega)).trans (by first | assumption | exact hs_same _ _ _))))) rfl (fun v h3 hp => ?_)
          obtain ⟨e1, hF3, w3'⟩ := hp
          simp only at e1
          subst e1
          obtain ⟨ar3, wm3, -, -, hTR3, -, -⟩ := w3'.un
          obtain ⟨v0, v1, v2, v3, v4, v5, v6, v7, v8, v9, v10, -⟩ := wm3
          simp only [mcell] at v0
          have h5 := (regX_pv s2 hk hv2 ht2 hr2).2.2
          have h6 := (hTR3.k hk).2.1
          rw [h5, Nat.add_sub_cancel, he2] at h6
          refine gs_n 63 a_X5_register_62 rfl ?_
          refine gs_get 66 a_X5_register_63 f_5_40 (by first | assumption | exact hs_same _ _ _ | exact (hs_ne _ _ (by first | assumption | decide | omega)).trans (by first | assumption | exact hs_same _ _ _ | exact (hs_ne _ _ (by first | assumption | decide | omega)).trans (by first | assumption | exact hs_same _ _ _ | exact (hs_ne _ _ (by first | assumption | decide | omega)).trans (by first | assumption | exact hs_same _ _ _ | exact (hs_ne _ _ (by first | assumption | decide | omega)).trans (by first | assumption | exact hs_same _ _ _))))) rfl rfl ?_
          refine gs_n 67 a_X5_register_66 rfl ?_
          refine gs_ia k 68 a_X5_register_67 (by first | assumption | exact hs_same _ _ _ | exact (hs_ne _ _ (by first | assumption | decide | omega)).trans (by first | assumption | exact hs_same _ _ _ | exact (hs_ne _ _ (by first | assumption | decide | omega)).trans (by first | assumption | exact hs_same _ _ _ | exact (hs_ne _ _ (by first | assumption | decide | omega)).trans (by first | assumption | exact hs_same _ _ _ | exact (hs_ne _ _ (by first | assumption | decide | omega)).trans (by first | assumption | exact hs_same _ _ _))))) rfl (by omega) (by omega) rfl ?_
          rw [h6 (by omega)]
          refine gs_iret a_X5_register_68 rfl rfl ?_
          exact ⟨rfl, hF2.trans hF3, w3'⟩
        refine gs_n 23 a_X5_register_22 rfl ?_
        refine gs_get 26 a_X5_register_23 f_5_43 (by first | assumption | exact hs_same _ _ _ | exact (hs_ne _ _ (by first | assumption | decide | omega)).trans (by first | assumption | exact hs_same _ _ _ | exact (hs_ne _ _ (by first | assumption | decide | omega)).trans (by first | assumption | exact hs_same _ _ _ | exact (hs_ne _ _ (by first | assumption | decide | omega)).trans (by first | assumption | exact hs_same _ _ _ | exact (hs_ne _ _ (by first | assumption | decide | omega)).trans (by first | assumption | exact hs_same _ _ _))))) rfl rfl ?_
        refine gs_n 27 a_X5_register_26 rfl ?_
        refine gs_ia k 28 a_X5_register_27 (by first | assumption | exact hs_same _ _ _ | exact (hs_ne _ _ (by first | assumption | decide | omega)).trans (by first | assumption | exact hs_same _ _ _ | exact (hs_ne _ _ (by first | assumption | decide | omega)).trans (by first | assumption | exact hs_same _ _ _ | exact (hs_ne _ _ (by first | assumption | decide | omega)).trans (by first | assumption | exact hs_same _ _ _ | exact (hs_ne _ _ (by first | assumption | decide | omega)).trans (by first | assumption | exact hs_same _ _ _))))) rfl (by omega) (by omega) rfl ?_
        rw [t3]
        refine gs_k (-1) 29 a_X5_register_28 (by decide +kernel) rfl ?_
        refine gs_ic 41 32 a_X5_register_29 rfl rfl (fun c29 => ?_) (fun c29 => ?_)
        · have c29 : m1 ((told P X).2.2.1 k) = -1 := c29
          have z := (m1_no (by omega)).mp c29
          rw [if_neg (fun q => q z)]
          refine gs_n 42 a_X5_register_41 rfl ?_
          refine gs_k (nI 16) 44 a_X5_register_42 (by decide +kernel) rfl ?_
          refine gs_n 45 a_X5_register_44 rfl ?_
          refine gs_cv 48 a_X5_register_45 k_5_147 q_X5_opened (r_opened (fun k hk => (T_b hv false k hk).2.1) w') rfl rfl rfl (by simp [Value.category]) (by first | assumption | exact hs_same _ _ _ | exact (hs_ne _ _ (by first | assumption | decide | omega)).trans (by first | assumption | exact hs_same _ _ _ | exact (hs_ne _ _ (by first | assumption | decide | omega)).trans (by first | assumption | exact hs_same _ _ _ | exact (hs_ne _ _ (by first | assumption | decide | omega)).trans (by first | assumption | exact hs_same _ _ _ | exact (hs_ne _ _ (by first | assumption | decide | omega)).trans (by first | assumption | exact hs_same _ _ _))))) rfl (fun v h1 hp => ?_)
          cases hp
          refine gs_cv 51 a_X5_register_48 k_5_151 q_X5_bookHas (r_bookHas 16 (cntO (told P X)) (by omega) (by have := cntO_le (told P X); omega) s2 w') rfl rfl rfl (by simp [Value.category]) (by first | assumption | exact hs_same _ _ _ | exact (hs_ne _ _ (by first | assumption | decide | omega)).trans (by first | assumption | exact hs_same _ _ _ | exact (hs_ne _ _ (by first | assumption | decide | omega)).trans (by first | assumption | exact hs_same _ _ _ | exact (hs_ne _ _ (by first | assumption | decide | omega)).trans (by first | assumption | exact hs_same _ _ _ | exact (hs_ne _ _ (by first | assumption | decide | omega)).trans (by first | assumption | exact hs_same _ _ _))))) rfl (fun v h1 hp => ?_)
          cases hp
          rw [bk_eq0 (told_n hv)]
          refine gs_if 57 54 a_X5_register_51 rfl rfl (fun c51 => ?_) (fun c51 => ?_)
          · have c51 := (b01_ne _).mp c51
            rw [if_neg (by rw [c51]; simp)]
            refine gs_w [(0, .ref 96), (1, .int (nI k))] (by simp [ix_nd]) (by intro x hx; simp only [List.mem_cons, List.not_mem_nil, or_false] at hx; rcases hx with rfl | rfl <;> rfl) ?_
            exact last X h (FS.rf _ _) hv z rfl (by have := room_sm hnd c51; omega) w'
          · have c51 : bkF (told P X) 0 = false := (b01_0 _).mp (Classical.byContradiction c51)
            rw [if_pos c51]
            refine gs_k (-8) 56 a_X5_register_54 (by decide +kernel) rfl ?_
            refine gs_iret a_X5_register_56 rfl rfl ?_
            exact ⟨rfl, FS.rf _ _, w⟩
        · have c29 : ¬ m1 ((told P X).2.2.1 k) = -1 := c29
          have z : (told P X).2.2.1 k ≠ 0 := fun q => c29 ((m1_no (by omega)).mpr q)
          rw [if_pos z]
          have q2 := fin_pv (c := 0) (by omega) s2 hk hv hnd z
          refine gs_n 33 a_X5_register_32 rfl ?_
          refine gs_n 34 a_X5_register_33 rfl ?_
          refine gs_k (nI 0) 35 a_X5_register_34 (by decide +kernel) rfl ?_
          refine gs_cv 38 a_X5_register_35 k_5_144 q_X5_ends (r_ends false hk s2 s4 hv z (hnd k hk) w') rfl rfl rfl (by simp [Value.category]) (by first | assumption | exact hs_same _ _ _ | exact (hs_ne _ _ (by first | assumption | decide | omega)).trans (by first | assumption | exact hs_same _ _ _ | exact (hs_ne _ _ (by first | assumption | decide | omega)).trans (by first | assumption | exact hs_same _ _ _ | exact (hs_ne _ _ (by first | assumption | decide | omega)).trans (by first | assumption | exact hs_same _ _ _ | exact (hs_ne _ _ (by first | assumption | decide | omega)).trans (by first | assumption | exact hs_same _ _ _))))) rfl (fun v h2 hp => ?_)
          obtain ⟨e1, hF2, w4'⟩ := hp
          simp only at e1
          subst e1
          simp only [Bool.false_eq_true, if_false] at w4'
          refine gs_n 57 a_X5_register_38 rfl ?_
          refine gs_w [(0, .ref 96), (1, .int (nI k))] (by simp [ix_nd]) (by intro x hx; simp only [List.mem_cons, List.not_mem_nil, or_false] at hx; rcases hx with rfl | rfl <;> rfl) ?_
          exact last _ h2 hF2 q2.1 q2.2.2.1 (by rw [q2.2.2.2.1]) q2.2.2.2.2 w4'
      · have c16 : ¬ x ≤ nI 31 := c16
        rw [le_lit (by omega)] at c16
        rw [if_pos (show isK x = false by unfold isK; exact decide_eq_false (by omega))]
        refine gs_k (-2) 21 a_X5_register_19 (by decide +kernel) rfl ?_
        refine gs_iret a_X5_register_21 rfl rfl ?_
        exact ⟨rfl, FS.rf _ _, w⟩
  · have c4 := (b01_ne _).mp c4
    rw [if_pos c4]
    refine gs_k (-1) 8 a_X5_register_7 (by decide +kernel) rfl ?_
    refine gs_iret a_X5_register_8 rfl rfl ?_
    exact ⟨rfl, FS.rf _ _, w⟩
theorem r_begins {k t c : Nat} (hk : k < 32) (ht : t = nx) (hnx : nx ≤ 1000) (hdist : ∀ j, j < 32 → tx j ≤ nx) (w : RE h P cap tmo clk cl cut X sy torn tE tp an (n, ep, tx, bg, ba, ad, lc, de, mq, nx, la, en)) : ev (d + 1) n_X5_begins [.ref 96, .int (nI k), .int (nI t), .int (nI c)] h (fun u => u.1 = none ∧ FS cM h u.2 ∧ RE u.2 P cap tmo clk cl cut X sy torn tE tp an (n, ep, va_up tx k (t + 1), va_up bg k (c + 1), ba, va_up ad k (nI 0), lc, de, mq, t + 1, la, va_up en t 0)) := by
  subst ht
  obtain ⟨ar, w, hE, htorn, hTR, h18, h19⟩ := w
  have wd := ((((w.s10 (upd (ar 10) k (nI t))).s11 (upd (ar 11) k (nI c))).s12 (upd (ar 12) k (nI 0))).s14 (upd (ar 14) t (nI 0))).obj (P, cap, tmo, clk, cl, cut, X.length, sy, torn, t + 1, la.length, tp.length, an.length)
  obtain ⟨w0, w1, w2, w3, w4, w5, w6, w7, w8, w9, w10, w11, w12, w13, w14, w15, -⟩ := w
  simp only [mcell] at w0
  refine ev_of q_X5_begins (Nat.le_of_ble_eq_true rfl) ?_
  refine gs_n 1 a_X5_begins_0 rfl ?_
  refine gs_get 4 a_X5_begins_1 f_5_43 (by first | assumption | exact hs_same _ _ _ | exact (hs_ne _ _ (by first | assumption | decide | omega)).trans (by first | assumption | exact hs_same _ _ _ | exact (hs_ne _ _ (by first | assumption | decide | omega)).trans (by first | assumption | exact hs_same _ _ _ | exact (hs_ne _ _ (by first | assumption | decide | omega)).trans (by first | assumption | exact hs_same _ _ _ | exact (hs_ne _ _ (by first | assumption | decide | omega)).trans (by first | assumption | exact hs_same _ _ _ | exact (hs_ne _ _ (by first | assumption | decide | omega)).trans (by first | assumption | exact hs_same _ _ _ | exact (hs_ne _ _ (by first | assumption | decide | omega)).trans (by first | assumption | exact hs_same _ _ _))))))) rfl rfl ?_
  refine gs_n 5 a_X5_begins_4 rfl ?_
  refine gs_n 6 a_X5_begins_5 rfl ?_
  refine gs_is k 7 a_X5_begins_6 (by first | assumption | exact hs_same _ _ _ | exact (hs_ne _ _ (by first | assumption | decide | omega)).trans (by first | assumption | exact hs_same _ _ _ | exact (hs_ne _ _ (by first | assumption | decide | omega)).trans (by first | assumption | exact hs_same _ _ _ | exact (hs_ne _ _ (by first | assumption | decide | omega)).trans (by first | assumption | exact hs_same _ _ _ | exact (hs_ne _ _ (by first | assumption | decide | omega)).trans (by first | assumption | exact hs_same _ _ _ | exact (hs_ne _ _ (by first | assumption | decide | omega)).trans (by first | assumption | exact hs_same _ _ _ | exact (hs_ne _ _ (by first | assumption | decide | omega)).trans (by first | assumption | exact hs_same _ _ _))))))) rfl (by omega) (by omega) rfl ?_
  refine gs_n 8 a_X5_begins_7 rfl ?_
  refine gs_get 11 a_X5_begins_8 f_5_46 (by first | assumption | exact hs_same _ _ _ | exact (hs_ne _ _ (by first | assumption | decide | omega)).trans (by first | assumption | exact hs_same _ _ _ | exact (hs_ne _ _ (by first | assumption | decide | omega)).trans (by first | assumption | exact hs_same _ _ _ | exact (hs_ne _ _ (by first | assumption | decide | omega)).trans (by first | assumption | exact hs_same _ _ _ | exact (hs_ne _ _ (by first | assumption | decide | omega)).trans (by first | assumption | exact hs_same _ _ _ | exact (hs_ne _ _ (by first | assumption | decide | omega)).trans (by first | assumption | exact hs_same _ _ _ | exact (hs_ne _ _ (by first | assumption | decide | omega)).trans (by first | assumption | exact hs_same _ _ _))))))) rfl rfl ?_
  refine gs_n 12 a_X5_begins_11 rfl ?_
  refine gs_n 13 a_X5_begins_12 rfl ?_
  refine gs_is k 14 a_X5_begins_13 (by first | assumption | exact hs_same _ _ _ | exact (hs_ne _ _ (by first | assumption | decide | omega)).trans (by first | assumption | exact hs_same _ _ _ | exact (hs_ne _ _ (by first | assumption | decide | omega)).trans (by first | assumption | exact hs_same _ _ _ | exact (hs_ne _ _ (by first | assumption | decide | omega)).trans (by first | assumption | exact hs_same _ _ _ | exact (hs_ne _ _ (by first | assumption | decide | omega)).trans (by first | assumption | exact hs_same _ _ _ | exact (hs_ne _ _ (by first | assumption | decide | omega)).trans (by first | assumption | exact hs_same _ _ _ | exact (hs_ne _ _ (by first | assumption | decide | omega)).trans (by first | assumption | exact hs_same _ _ _))))))) rfl (by omega) (by omega) rfl ?_
  refine gs_n 15 a_X5_begins_14 rfl ?_
  refine gs_get 18 a_X5_begins_15 f_5_49 (by first | assumption | exact hs_same _ _ _ | exact (hs_ne _ _ (by first | assumption | decide | omega)).trans (by first | assumption | exact hs_same _ _ _ | exact (hs_ne _ _ (by first | assumption | decide | omega)).trans (by first | assumption | exact hs_same _ _ _ | exact (hs_ne _ _ (by first | assumption | decide | omega)).trans (by first | assumption | exact hs_same _ _ _ | exact (hs_ne _ _ (by first | assumption | decide | omega)).trans (by first | assumption | exact hs_same _ _ _ | exact (hs_ne _ _ (by first | assumption | decide | omega)).trans (by first | assumption | exact hs_same _ _ _ | exact (hs_ne _ _ (by first | assumption | decide | omega)).trans (by first | assumption | exact hs_same _ _ _))))))) rfl rfl ?_
  refine gs_n 19 a_X5_begins_18 rfl ?_
  refine gs_k (nI 0) 20 a_X5_begins_19 (by decide +kernel) rfl ?_
  refine gs_is k 21 a_X5_begins_20 (by first | assumption | exact hs_same _ _ _ | exact (hs_ne _ _ (by first | assumption | decide | omega)).trans (by first | assumption | exact hs_same _ _ _ | exact (hs_ne _ _ (by first | assumption | decide | omega)).trans (by first | assumption | exact hs_same _ _ _ | exact (hs_ne _ _ (by first | assumption | decide | omega)).trans (by first | assumption | exact hs_same _ _ _ | exact (hs_ne _ _ (by first | assumption | decide | omega)).trans (by first | assumption | exact hs_same _ _ _ | exact (hs_ne _ _ (by first | assumption | decide | omega)).trans (by first | assumption | exact hs_same _ _ _ | exact (hs_ne _ _ (by first | assumption | decide | omega)).trans (by first | assumption | exact hs_same _ _ _))))))) rfl (by omega) (by omega) rfl ?_
  refine gs_n 22 a_X5_begins_21 rfl ?_
  refine gs_get 25 a_X5_begins_22 f_5_55 (by first | assumption | exact hs_same _ _ _ | exact (hs_ne _ _ (by first | assumption | decide | omega)).trans (by first | assumption | exact hs_same _ _ _ | exact (hs_ne _ _ (by first | assumption | decide | omega)).trans (by first | assumption | exact hs_same _ _ _ | exact (hs_ne _ _ (by first | assumption | decide | omega)).trans (by first | assumption | exact hs_same _ _ _ | exact (hs_ne _ _ (by first | assumption | decide | omega)).trans (by first | assumption | exact hs_same _ _ _ | exact (hs_ne _ _ (by first | assumption | decide | omega)).trans (by first | assumption | exact hs_same _ _ _ | exact (hs_ne _ _ (by first | assumption | decide | omega)).trans (by first | assumption | exact hs_same _ _ _))))))) rfl rfl ?_
  refine gs_n 26 a_X5_begins_25 rfl ?_
  refine gs_k (nI 0) 27 a_X5_begins_26 (by decide +kernel) rfl ?_
  refine gs_is t 28 a_X5_begins_27 (by first | assumption | exact hs_same _ _ _ | exact (hs_ne _ _ (by first | assumption | decide | omega)).trans (by first | assumption | exact hs_same _ _ _ | exact (hs_ne _ _ (by first | assumption | decide | omega)).trans (by first | assumption | exact hs_same _ _ _ | exact (hs_ne _ _ (by first | assumption | decide | omega)).trans (by first | assumption | exact hs_same _ _ _ | exact (hs_ne _ _ (by first | assumption | decide | omega)).trans (by first | assumption | exact hs_same _ _ _ | exact (hs_ne _ _ (by first | assumption | decide | omega)).trans (by first | assumption | exact hs_same _ _ _ | exact (hs_ne _ _ (by first | assumption | decide | omega)).trans (by first | assumption | exact hs_same _ _ _))))))) rfl (by omega) (by omega) rfl ?_
  refine gs_n 29 a_X5_begins_28 rfl ?_
  refine gs_n 30 a_X5_begins_29 rfl ?_
  refine gs_k (nI 1) 31 a_X5_begins_30 (by decide +kernel) rfl ?_
  refine gs_n 32 a_X5_begins_31 rfl ?_
  refine gs_put 35 _ a_X5_begins_32 f_5_80 (by first | assumption | exact hs_same _ _ _ | exact (hs_ne _ _ (by first | assumption | decide | omega)).trans (by first | assumption | exact hs_same _ _ _ | exact (hs_ne _ _ (by first | assumption | decide | omega)).trans (by first | assumption | exact hs_same _ _ _ | exact (hs_ne _ _ (by first | assumption | decide | omega)).trans (by first | assumption | exact hs_same _ _ _ | exact (hs_ne _ _ (by first | assumption | decide | omega)).trans (by first | assumption | exact hs_same _ _ _ | exact (hs_ne _ _ (by first | assumption | decide | omega)).trans (by first | assumption | exact hs_same _ _ _ | exact (hs_ne _ _ (by first | assumption | decide | omega)).trans (by first | assumption | exact hs_same _ _ _))))))) (Nat.le_of_ble_eq_true rfl) rfl (fun z => absurd z (by decide)) rfl rfl ?_
  rw [show nI t + nI 1 = nI (t + 1) from nI_add t 1]
  refine gs_vret a_X5_begins_35 rfl ?_
  refine ⟨rfl, ((((FS.m _ (by omega)).trans (FS.m _ (by omega))).trans (FS.m _ (by omega))).trans (FS.m _ (by omega))).trans (FS.m _ (by omega)), _, wd, ?_, htorn, ?_, h18, h19⟩
  · obtain ⟨q1, q2, q3⟩ := hE
    exact ⟨q1, q2, q3⟩
  · obtain ⟨u1, u2, u3, u4⟩ := hTR
    refine ⟨?_, u2, ?_, u4⟩
    · intro j hj
      obtain ⟨v1, v2, v3, v4, v5⟩ := u1 j hj
      by_cases z : j = k
      · subst z
        rw [va_up_self, va_up_self, va_up_self]
        refine ⟨v1, v2, ?_, fun _ => ?_, ?_⟩
        · show upd (ar 10) j (nI t) j = _
          rw [upd_s, m1_s]
        · show upd (ar 11) j (nI c) j = _
          rw [upd_s, m1_s]
        · show upd (ar 12) j (nI 0) j = _
          rw [upd_s]
      · rw [va_up_ne _ _ z, va_up_ne _ _ z, va_up_ne _ _ z]
        refine ⟨v1, v2, ?_, fun q => ?_, ?_⟩
        · show upd (ar 10) k (nI t) j = _
          rw [upd_n z]; exact v3
        · show upd (ar 11) k (nI c) j = _
          rw [upd_n z]; exact v4 q
        · show upd (ar 12) k (nI 0) j = _
          rw [upd_n z]; exact v5
    · intro q hq
      show upd (ar 14) t (nI 0) q = _
      by_cases z : q = t
      · subst z; rw [upd_s, va_up_self]
      · rw [upd_n z, va_up_ne _ _ z]; exact u3 q (by omega)
theorem r_begin (x e : Int32) (hs : SI (P, cap, tmo, clk, cl, cut, X, sy, torn, tE, tp, an)) (w : RS h (P, cap, tmo, clk, cl, cut, X, sy, torn, tE, tp, an)) : ev (d + 4) n_X5_begin [.ref 96, .int x, .int e] h (fun u => u.1 = some (.int (F_begin (P, cap, tmo, clk, cl, cut, X, sy, torn, tE, tp, an) x e).1) ∧ FS cM h u.2 ∧ RS u.2 (F_begin (P, cap, tmo, clk, cl, cut, X, sy, torn, tE, tp, an) x e).2) := by
  obtain ⟨s1, s2, s3, s4, s5, s6, s7, s8, s9, hv, s11, -⟩ := hs
  have w' : RE h P cap tmo clk cl cut X sy torn tE tp an (tS cl P X) := w
  obtain ⟨ar, wm, hE, -, hTR, -, -⟩ := w'.un
  obtain ⟨w0, w1, w2, w3, w4, w5, w6, w7, w8, w9, w10, w11, w12, w13, -⟩ := wm
  simp only [mcell] at w0
  simp only [F_begin]
  refine ev_of q_X5_begin (Nat.le_of_ble_eq_true rfl) ?_
  refine gs_n 1 a_X5_begin_0 rfl ?_
  refine gs_n 2 a_X5_begin_1 rfl ?_
  refine gs_n 3 a_X5_begin_2 rfl ?_
  refine gs_cv 6 a_X5_begin_3 k_5_158 q_X5_refused (r_refused x e (fun k hk => (T_b hv cl k hk).1) w') rfl rfl rfl (by simp [Value.category]) (by first | assumption | exact hs_same _ _ _ | exact (hs_ne _ _ (by first | assumption | decide | omega)).trans (by first | assumption | exact hs_same _ _ _ | exact (hs_ne _ _ (by first | assumption | decide | omega)).trans (by first | assumption | exact hs_same _ _ _ | exact (hs_ne _ _ (by first | assumption | decide | omega)).trans (by first | assumption | exact hs_same _ _ _ | exact (hs_ne _ _ (by first | assumption | decide | omega)).trans (by first | assumption | exact hs_same _ _ _))))) rfl (fun v h1 hp => ?_)
  cases hp
  refine gs_n 7 a_X5_begin_6 rfl ?_
  refine gs_n 8 a_X5_begin_7 rfl ?_
  refine gs_if 13 11 a_X5_begin_8 rfl rfl (fun c9 => ?_) (fun c9 => ?_)
  · have c9 : refF cl (tS cl P X) x e true = nI 0 := c9
    rw [if_neg (fun q => q c9)]
    obtain ⟨r1, r2, r3, r4, r5⟩ := refF_0 c9
    subst r1
    obtain ⟨rfl, hnd⟩ := s11 rfl
    rw [tS_f] at w' w0 hTR r4 r5
    obtain ⟨hk, hx⟩ := isK_kn r3
    generalize hkk : kn x = k at *
    subst hx
    subst r5
    obtain ⟨t1, t2, t3, t4, t5⟩ := hTR.k hk
    have hTb := (T_b hv false k hk).2.1
    rw [tS_f] at hTb
    refine gs_n 14 a_X5_begin_13 rfl ?_
    refine gs_get 17 a_X5_begin_14 f_5_43 (by first | assumption | exact hs_same _ _ _ | exact (hs_ne _ _ (by first | assumption | decide | omega)).trans (by first | assumption | exact hs_same _ _ _ | exact (hs_ne _ _ (by first | assumption | decide | omega)).trans (by first | assumption | exact hs_same _ _ _ | exact (hs_ne _ _ (by first | assumption | decide | omega)).trans (by first | assumption | exact hs_same _ _ _ | exact (hs_ne _ _ (by first | assumption | decide | omega)).trans (by first | assumption | exact hs_same _ _ _))))) rfl rfl ?_
    refine gs_n 18 a_X5_begin_17 rfl ?_
    refine gs_ia k 19 a_X5_begin_18 (by first | assumption | exact hs_same _ _ _ | exact (hs_ne _ _ (by first | assumption | decide | omega)).trans (by first | assumption | exact hs_same _ _ _ | exact (hs_ne _ _ (by first | assumption | decide | omega)).trans (by first | assumption | exact hs_same _ _ _ | exact (hs_ne _ _ (by first | assumption | decide | omega)).trans (by first | assumption | exact hs_same _ _ _ | exact (hs_ne _ _ (by first | assumption | decide | omega)).trans (by first | assumption | exact hs_same _ _ _))))) rfl (by omega) (by omega) rfl ?_
    rw [t3]
    refine gs_k (-1) 20 a_X5_begin_19 (by decide +kernel) rfl ?_
    refine gs_ic 26 23 a_X5_begin_20 rfl rfl (fun c20 => ?_) (fun c20 => ?_)
    · have c20 : m1 ((told P X).2.2.1 k) = -1 := c20
      have z := (m1_no (by omega)).mp c20
      rw [if_neg (fun q => q z)]
      refine gs_n 27 a_X5_begin_26 rfl ?_
      refine gs_k (nI 16) 29 a_X5_begin_27 (by decide +kernel) rfl ?_
      refine gs_n 30 a_X5_begin_29 rfl ?_
      refine gs_cv 33 a_X5_begin_30 k_5_147 q_X5_opened (r_opened (fun k hk => (T_b hv false k hk).2.1) w') rfl rfl rfl (by simp [Value.category]) (by first | assumption | exact hs_same _ _ _ | exact (hs_ne _ _ (by first | assumption | decide | omega)).trans (by first | assumption | exact hs_same _ _ _ | exact (hs_ne _ _ (by first | assumption | decide | omega)).trans (by first | assumption | exact hs_same _ _ _ | exact (hs_ne _ _ (by first | assumption | decide | omega)).trans (by first | assumption | exact hs_same _ _ _ | exact (hs_ne _ _ (by first | assumption | decide | omega)).trans (by first | assumption | exact hs_same _ _ _))))) rfl (fun v h1 hp => ?_)
      cases hp
      refine gs_k (nI 1) 34 a_X5_begin_33 (by decide +kernel) rfl ?_
      refine gs_n 35 a_X5_begin_34 rfl ?_
      rw [nI_add]
      refine gs_cv 38 a_X5_begin_35 k_5_151 q_X5_bookHas (r_bookHas 16 (cntO (told P X) + 1) (by omega) (by have := cntO_le (told P X); omega) s2 w') rfl rfl rfl (by simp [Value.category]) (by first | assumption | exact hs_same _ _ _ | exact (hs_ne _ _ (by first | assumption | decide | omega)).trans (by first | assumption | exact hs_same _ _ _ | exact (hs_ne _ _ (by first | assumption | decide | omega)).trans (by first | assumption | exact hs_same _ _ _ | exact (hs_ne _ _ (by first | assumption | decide | omega)).trans (by first | assumption | exact hs_same _ _ _ | exact (hs_ne _ _ (by first | assumption | decide | omega)).trans (by first | assumption | exact hs_same _ _ _))))) rfl (fun v h1 hp => ?_)
      cases hp
      rw [bk_eq (more := 1) (told_n hv)]
      refine gs_if 44 41 a_X5_begin_38 rfl rfl (fun c34 => ?_) (fun c34 => ?_)
      · have c34 := (b01_ne _).mp c34
        rw [if_neg (by rw [c34]; simp)]
        have hrm := room_sm hnd c34
        have hlen := len42 s2 s4 hv
        obtain ⟨n, ep, tx, bg, ba, ad, lc, de, mq, nx, la, en, hT⟩ := told_ex P X
        have hg : GT P cap X (n, ep, tx, bg, ba, ad, lc, de, mq, nx, la, en) := hT ▸ pv_all hv
        rw [hT] at w' w0 z r4 hrm ⊢
        simp only at z r4 hrm w0 ⊢
        have hb := pv_begin s2 hv hT hk r4 z s7 (by omega)
        have hnx2 := hg.1.2.1
        have h3 := (hg.1.2.2.2.2.1 k hk).1
        have had := (hg.1.2.2.2.2.1 k hk).2.2.2.2.2.2 z
        rw [m1_p r4]
        refine gs_n 45 a_X5_begin_44 rfl ?_
        refine gs_n 46 a_X5_begin_45 rfl ?_
        refine gs_get 49 a_X5_begin_46 f_5_87 (by first | assumption | exact hs_same _ _ _ | exact (hs_ne _ _ (by first | assumption | decide | omega)).trans (by first | assumption | exact hs_same _ _ _ | exact (hs_ne _ _ (by first | assumption | decide | omega)).trans (by first | assumption | exact hs_same _ _ _ | exact (hs_ne _ _ (by first | assumption | decide | omega)).trans (by first | assumption | exact hs_same _ _ _ | exact (hs_ne _ _ (by first | assumption | decide | omega)).trans (by first | assumption | exact hs_same _ _ _))))) rfl rfl ?_
        refine gs_k (nI 1) 50 a_X5_begin_49 (by decide +kernel) rfl ?_
        refine gs_n 51 a_X5_begin_50 rfl ?_
        refine gs_n 52 a_X5_begin_51 rfl ?_
        refine gs_n 53 a_X5_begin_52 rfl ?_
        refine gs_get 56 a_X5_begin_53 f_5_96 (by first | assumption | exact hs_same _ _ _ | exact (hs_ne _ _ (by first | assumption | decide | omega)).trans (by first | assumption | exact hs_same _ _ _ | exact (hs_ne _ _ (by first | assumption | decide | omega)).trans (by first | assumption | exact hs_same _ _ _ | exact (hs_ne _ _ (by first | assumption | decide | omega)).trans (by first | assumption | exact hs_same _ _ _ | exact (hs_ne _ _ (by first | assumption | decide | omega)).trans (by first | assumption | exact hs_same _ _ _))))) rfl rfl ?_
        refine gs_n 57 a_X5_begin_56 rfl ?_
        refine gs_get 60 a_X5_begin_57 f_5_80 (by first | assumption | exact hs_same _ _ _ | exact (hs_ne _ _ (by first | assumption | decide | omega)).trans (by first | assumption | exact hs_same _ _ _ | exact (hs_ne _ _ (by first | assumption | decide | omega)).trans (by first | assumption | exact hs_same _ _ _ | exact (hs_ne _ _ (by first | assumption | decide | omega)).trans (by first | assumption | exact hs_same _ _ _ | exact (hs_ne _ _ (by first | assumption | decide | omega)).trans (by first | assumption | exact hs_same _ _ _))))) rfl rfl ?_
        refine gs_cv 63 a_X5_begin_60 k_5_129 q_X5_add (r_add P 1 k (ep k - 1) clk nx (by omega) (okE_book s2 (by omega) hk (by omega) (by omega) (by omega) (by omega)).1 w') rfl rfl rfl (by simp [Value.category]) (by first | assumption | exact hs_same _ _ _ | exact (hs_ne _ _ (by first | assumption | decide | omega)).trans (by first | assumption | exact hs_same _ _ _ | exact (hs_ne _ _ (by first | assumption | decide | omega)).trans (by first | assumption | exact hs_same _ _ _ | exact (hs_ne _ _ (by first | assumption | decide | omega)).trans (by first | assumption | exact hs_same _ _ _ | exact (hs_ne _ _ (by first | assumption | decide | omega)).trans (by first | assumption | exact hs_same _ _ _))))) rfl (fun v h2 hp => ?_)
        obtain ⟨e1, hF1, w3'⟩ := hp
        simp only at e1
        subst e1
        have k0 := w3'.obj
        simp only [mcell] at k0
        refine gs_n 65 a_X5_begin_63 rfl ?_
        refine gs_n 66 a_X5_begin_65 rfl ?_
        refine gs_n 67 a_X5_begin_66 rfl ?_
        refine gs_n 68 a_X5_begin_67 rfl ?_
        refine gs_get 71 a_X5_begin_68 f_5_80 (by first | assumption | exact hs_same _ _ _ | exact (hs_ne _ _ (by first | assumption | decide | omega)).trans (by first | assumption | exact hs_same _ _ _ | exact (hs_ne _ _ (by first | assumption | decide | omega)).trans (by first | assumption | exact hs_same _ _ _ | exact (hs_ne _ _ (by first | assumption | decide | omega)).trans (by first | assumption | exact hs_same _ _ _ | exact (hs_ne _ _ (by first | assumption | decide | omega)).trans (by first | assumption | exact hs_same _ _ _))))) rfl rfl ?_
        refine gs_n 72 a_X5_begin_71 rfl ?_
        refine gs_get 75 a_X5_begin_72 f_5_96 (by first | assumption | exact hs_same _ _ _ | exact (hs_ne _ _ (by first | assumption | decide | omega)).trans (by first | assumption | exact hs_same _ _ _ | exact (hs_ne _ _ (by first | assumption | decide | omega)).trans (by first | assumption | exact hs_same _ _ _ | exact (hs_ne _ _ (by first | assumption | decide | omega)).trans (by first | assumption | exact hs_same _ _ _ | exact (hs_ne _ _ (by first | assumption | decide | omega)).trans (by first | assumption | exact hs_same _ _ _))))) rfl rfl ?_
        refine gs_cv 78 a_X5_begin_75 k_5_161 q_X5_begins (r_begins (c := clk) hk rfl (by omega) (fun j hj => (hg.1.2.2.2.2.1 j hj).2.1) w3') rfl rfl rfl (by simp [Value.category]) (by first | assumption | exact hs_same _ _ _ | exact (hs_ne _ _ (by first | assumption | decide | omega)).trans (by first | assumption | exact hs_same _ _ _ | exact (hs_ne _ _ (by first | assumption | decide | omega)).trans (by first | assumption | exact hs_same _ _ _ | exact (hs_ne _ _ (by first | assumption | decide | omega)).trans (by first | assumption | exact hs_same _ _ _ | exact (hs_ne _ _ (by first | assumption | decide | omega)).trans (by first | assumption | exact hs_same _ _ _))))) rfl (fun v h3 hp => ?_)
        obtain ⟨e1, hF2, w4'⟩ := hp
        simp only at e1
        subst e1
        have hadk : va_up ad k (nI 0) = ad := by
          funext j
          by_cases q : j = k
          · subst q; rw [va_up_self, had.2.1]
          · rw [va_up_ne _ _ q]
        rw [hadk] at w4'
        obtain ⟨ar3, wm3, -, -, hTR3, -, -⟩ := w4'.un
        obtain ⟨v0, v1, v2, v3, v4, v5, v6, v7, v8, v9, v10, v11, -⟩ := wm3
        simp only [mcell] at v0
        have h6 := (hTR3.k hk).2.2.1
        rw [show (n, ep, va_up tx k (nx + 1), va_up bg k (clk + 1), ba, ad, lc, de, mq, nx + 1, la, va_up en nx 0).2.2.1 k = nx + 1 from va_up_self _ _ _, m1_s] at h6
        refine gs_n 79 a_X5_begin_78 rfl ?_
        refine gs_get 82 a_X5_begin_79 f_5_43 (by first | assumption | exact hs_same _ _ _ | exact (hs_ne _ _ (by first | assumption | decide | omega)).trans (by first | assumption | exact hs_same _ _ _ | exact (hs_ne _ _ (by first | assumption | decide | omega)).trans (by first | assumption | exact hs_same _ _ _ | exact (hs_ne _ _ (by first | assumption | decide | omega)).trans (by first | assumption | exact hs_same _ _ _ | exact (hs_ne _ _ (by first | assumption | decide | omega)).trans (by first | assumption | exact hs_same _ _ _))))) rfl rfl ?_
        refine gs_n 83 a_X5_begin_82 rfl ?_
        refine gs_ia k 84 a_X5_begin_83 (by first | assumption | exact hs_same _ _ _ | exact (hs_ne _ _ (by first | assumption | decide | omega)).trans (by first | assumption | exact hs_same _ _ _ | exact (hs_ne _ _ (by first | assumption | decide | omega)).trans (by first | assumption | exact hs_same _ _ _ | exact (hs_ne _ _ (by first | assumption | decide | omega)).trans (by first | assumption | exact hs_same _ _ _ | exact (hs_ne _ _ (by first | assumption | decide | omega)).trans (by first | assumption | exact hs_same _ _ _))))) rfl (by omega) (by omega) rfl ?_
        rw [h6]
        refine gs_iret a_X5_begin_84 rfl rfl ?_
        refine ⟨rfl, hF1.trans hF2, ?_⟩
        show RE h3 P cap tmo clk false cut _ sy 0 tE tp an (tS false P _)
        rw [tS_f, hb.2]
        exact w4'
      · have c34 : bkF (told P X) 1 = false := (b01_0 _).mp (Classical.byContradiction c34)
        rw [if_pos c34]
        refine gs_k (-8) 43 a_X5_begin_41 (by decide +kernel) rfl ?_
        refine gs_iret a_X5_begin_43 rfl rfl ?_
        exact ⟨rfl, FS.rf _ _, w⟩
    · have c20 : ¬ m1 ((told P X).2.2.1 k) = -1 := c20
      have z : (told P X).2.2.1 k ≠ 0 := fun q => c20 ((m1_no (by omega)).mpr q)
      rw [if_pos z]
      refine gs_k (-4) 25 a_X5_begin_23 (by decide +kernel) rfl ?_
      refine gs_iret a_X5_begin_25 rfl rfl ?_
      exact ⟨rfl, FS.rf _ _, w⟩
  · rw [if_pos (show refF cl (tS cl P X) x e true ≠ nI 0 from c9)]
    refine gs_n 12 a_X5_begin_11 rfl ?_
    refine gs_iret a_X5_begin_12 rfl rfl ?_
    exact ⟨rfl, FS.rf _ _, w⟩
theorem r_end (x e : Int32) (c : Bool) (hs : SI (P, cap, tmo, clk, cl, cut, X, sy, torn, tE, tp, an)) (w : RS h (P, cap, tmo, clk, cl, cut, X, sy, torn, tE, tp, an)) : ev (d + 5) n_X5_end [.ref 96, .int x, .int e, .int (b01 c)] h (fun u => u.1 = some (.int (F_end (P, cap, tmo, clk, cl, cut, X, sy, torn, tE, tp, an) x e c).1) ∧ FS cM h u.2 ∧ RS u.2 (F_end (P, cap, tmo, clk, cl, cut, X, sy, torn, tE, tp, an) x e c).2) := by
  obtain ⟨s1, s2, s3, s4, s5, s6, s7, s8, s9, hv, s11, -⟩ := hs
  have w' : RE h P cap tmo clk cl cut X sy torn tE tp an (tS cl P X) := w
  obtain ⟨ar, wm, hE, -, hTR, -, -⟩ := w'.un
  obtain ⟨w0, w1, w2, w3, w4, w5, w6, w7, w8, w9, w10, w11, w12, w13, -⟩ := wm
  simp only [mcell] at w0
  simp only [F_end]
  refine ev_of q_X5_end (Nat.le_of_ble_eq_true rfl) ?_
  refine gs_n 1 a_X5_end_0 rfl ?_
  refine gs_n 2 a_X5_end_1 rfl ?_
  refine gs_n 3 a_X5_end_2 rfl ?_
  refine gs_cv 6 a_X5_end_3 k_5_158 q_X5_refused (r_refused x e (fun k hk => (T_b hv cl k hk).1) w') rfl rfl rfl (by simp [Value.category]) (by first | assumption | exact hs_same _ _ _ | exact (hs_ne _ _ (by first | assumption | decide | omega)).trans (by first | assumption | exact hs_same _ _ _ | exact (hs_ne _ _ (by first | assumption | decide | omega)).trans (by first | assumption | exact hs_same _ _ _ | exact (hs_ne _ _ (by first | assumption | decide | omega)).trans (by first | assumption | exact hs_same _ _ _ | exact (hs_ne _ _ (by first | assumption | decide | omega)).trans (by first | assumption | exact hs_same _ _ _))))) rfl (fun v h1 hp => ?_)
  cases hp
  refine gs_n 8 a_X5_end_6 rfl ?_
  refine gs_n 10 a_X5_end_8 rfl ?_
  refine gs_if 16 13 a_X5_end_10 rfl rfl (fun c9 => ?_) (fun c9 => ?_)
  · have c9 : refF cl (tS cl P X) x e true = nI 0 := c9
    rw [if_neg (fun q => q c9)]
    obtain ⟨r1, r2, r3, r4, r5⟩ := refF_0 c9
    subst r1
    obtain ⟨rfl, hnd⟩ := s11 rfl
    rw [tS_f] at w' w0 hTR r4 r5
    obtain ⟨hk, hx⟩ := isK_kn r3
    generalize hkk : kn x = k at *
    subst hx
    subst r5
    obtain ⟨t1, t2, t3, t4, t5⟩ := hTR.k hk
    have hTb := (T_b hv false k hk).2.1
    rw [tS_f] at hTb
    refine gs_n 17 a_X5_end_16 rfl ?_
    refine gs_get 20 a_X5_end_17 f_5_43 (by first | assumption | exact hs_same _ _ _ | exact (hs_ne _ _ (by first | assumption | decide | omega)).trans (by first | assumption | exact hs_same _ _ _ | exact (hs_ne _ _ (by first | assumption | decide | omega)).trans (by first | assumption | exact hs_same _ _ _ | exact (hs_ne _ _ (by first | assumption | decide | omega)).trans (by first | assumption | exact hs_same _ _ _ | exact (hs_ne _ _ (by first | assumption | decide | omega)).trans (by first | assumption | exact hs_same _ _ _))))) rfl rfl ?_
    refine gs_n 21 a_X5_end_20 rfl ?_
    refine gs_ia k 22 a_X5_end_21 (by first | assumption | exact hs_same _ _ _ | exact (hs_ne _ _ (by first | assumption | decide | omega)).trans (by first | assumption | exact hs_same _ _ _ | exact (hs_ne _ _ (by first | assumption | decide | omega)).trans (by first | assumption | exact hs_same _ _ _ | exact (hs_ne _ _ (by first | assumption | decide | omega)).trans (by first | assumption | exact hs_same _ _ _ | exact (hs_ne _ _ (by first | assumption | decide | omega)).trans (by first | assumption | exact hs_same _ _ _))))) rfl (by omega) (by omega) rfl ?_
    rw [t3]
    refine gs_k (-1) 23 a_X5_end_22 (by decide +kernel) rfl ?_
    refine gs_ic 29 26 a_X5_end_23 rfl rfl (fun c20 => ?_) (fun c20 => ?_)
    · have c20 : ¬ m1 ((told P X).2.2.1 k) = -1 := c20
      have z : (told P X).2.2.1 k ≠ 0 := fun q => c20 ((m1_no (by omega)).mpr q)
      rw [if_neg z]
      refine gs_n 30 a_X5_end_29 rfl ?_
      refine gs_n 31 a_X5_end_30 rfl ?_
      refine gs_n 32 a_X5_end_31 rfl ?_
      refine gs_cv 35 a_X5_end_32 k_5_144 q_X5_ends (r_ends c hk s2 s4 hv z (hnd k hk) w') rfl rfl rfl (by simp [Value.category]) (by first | assumption | exact hs_same _ _ _ | exact (hs_ne _ _ (by first | assumption | decide | omega)).trans (by first | assumption | exact hs_same _ _ _ | exact (hs_ne _ _ (by first | assumption | decide | omega)).trans (by first | assumption | exact hs_same _ _ _ | exact (hs_ne _ _ (by first | assumption | decide | omega)).trans (by first | assumption | exact hs_same _ _ _ | exact (hs_ne _ _ (by first | assumption | decide | omega)).trans (by first | assumption | exact hs_same _ _ _))))) rfl (fun v h2 hp => ?_)
      obtain ⟨e1, hF2, w4'⟩ := hp
      simp only at e1
      subst e1
      refine gs_k (nI 0) 36 a_X5_end_35 (by decide +kernel) rfl ?_
      refine gs_iret a_X5_end_36 rfl rfl ?_
      exact ⟨rfl, hF2, w4'⟩
    · have c20 : m1 ((told P X).2.2.1 k) = -1 := Classical.byContradiction c20
      have z := (m1_no (by omega)).mp c20
      rw [if_pos z]
      refine gs_k (-5) 28 a_X5_end_26 (by decide +kernel) rfl ?_
      refine gs_iret a_X5_end_28 rfl rfl ?_
      exact ⟨rfl, FS.rf _ _, w⟩
  · rw [if_pos (show refF cl (tS cl P X) x e true ≠ nI 0 from c9)]
    refine gs_n 15 a_X5_end_13 rfl ?_
    refine gs_iret a_X5_end_15 rfl rfl ?_
    exact ⟨rfl, FS.rf _ _, w⟩
theorem r_isGroup (g : Int32) : ev (d + 1) n_X5_isGroup [.int g] h (fun u => u = (some (.int (b01 (decide (0 ≤ g.toInt ∧ g.toInt < 8)))), h)) := by
  refine ev_of q_X5_isGroup (Nat.le_of_ble_eq_true rfl) ?_
  refine gs_n 1 a_X5_isGroup_0 rfl ?_
  refine gs_if 14 4 a_X5_isGroup_1 rfl rfl (fun c1 => ?_) (fun c1 => ?_)
  · have c1 : g < 0 := c1
    rw [lt0_iff] at c1
    refine gs_k (nI 0) 15 a_X5_isGroup_14 (by decide +kernel) rfl ?_
    refine gs_iret a_X5_isGroup_15 rfl rfl ?_
    rw [decide_eq_false (by omega)]
    rfl
  · have c1 : ¬ g < 0 := c1
    rw [lt0_iff] at c1
    refine gs_n 5 a_X5_isGroup_4 rfl ?_
    refine gs_k (nI 7) 7 a_X5_isGroup_5 (by decide +kernel) rfl ?_
    refine gs_ic 14 10 a_X5_isGroup_7 rfl rfl (fun c7 => ?_) (fun c7 => ?_)
    · have c7 : nI 7 < g := c7
      rw [lt_lit (by omega)] at c7
      refine gs_k (nI 0) 15 a_X5_isGroup_14 (by decide +kernel) rfl ?_
      refine gs_iret a_X5_isGroup_15 rfl rfl ?_
      rw [decide_eq_false (by omega)]
      rfl
    · have c7 : ¬ nI 7 < g := c7
      rw [lt_lit (by omega)] at c7
      refine gs_k (nI 1) 11 a_X5_isGroup_10 (by decide +kernel) rfl ?_
      refine gs_n 15 a_X5_isGroup_11 rfl ?_
      refine gs_iret a_X5_isGroup_15 rfl rfl ?_
      rw [decide_eq_true (by omega)]
      rfl
theorem r_isPart (x : Int32) (hP : P ≤ 8) (w : RE h P cap tmo clk cl cut X sy torn tE tp an T) : ev (d + 1) n_X5_isPartition [.ref 96, .int x] h (fun u => u = (some (.int (b01 (isPn P x))), h)) := by
  have w0 := w.obj
  simp only [mcell] at w0
  unfold isPn
  refine ev_of q_X5_isPartition (Nat.le_of_ble_eq_true rfl) ?_
  refine gs_n 1 a_X5_isPartition_0 rfl ?_
  refine gs_if 16 4 a_X5_isPartition_1 rfl rfl (fun c1 => ?_) (fun c1 => ?_)
  · have c1 : x < 0 := c1
    rw [lt0_iff] at c1
    refine gs_k (nI 0) 17 a_X5_isPartition_16 (by decide +kernel) rfl ?_
    refine gs_iret a_X5_isPartition_17 rfl rfl ?_
    rw [decide_eq_false (by omega)]
    rfl
  · have c1 : ¬ x < 0 := c1
    rw [lt0_iff] at c1
    refine gs_n 5 a_X5_isPartition_4 rfl ?_
    refine gs_n 6 a_X5_isPartition_5 rfl ?_
    refine gs_get 9 a_X5_isPartition_6 f_5_87 (by first | assumption | exact hs_same _ _ _ | exact (hs_ne _ _ (by first | assumption | decide | omega)).trans (by first | assumption | exact hs_same _ _ _ | exact (hs_ne _ _ (by first | assumption | decide | omega)).trans (by first | assumption | exact hs_same _ _ _ | exact (hs_ne _ _ (by first | assumption | decide | omega)).trans (by first | assumption | exact hs_same _ _ _ | exact (hs_ne _ _ (by first | assumption | decide | omega)).trans (by first | assumption | exact hs_same _ _ _))))) rfl rfl ?_
    refine gs_ic 16 12 a_X5_isPartition_9 rfl rfl (fun c7 => ?_) (fun c7 => ?_)
    · have c7 : nI P ≤ x := c7
      rw [ix_le_nI (by omega)] at c7
      refine gs_k (nI 0) 17 a_X5_isPartition_16 (by decide +kernel) rfl ?_
      refine gs_iret a_X5_isPartition_17 rfl rfl ?_
      rw [decide_eq_false (by omega)]
      rfl
    · have c7 : ¬ nI P ≤ x := c7
      rw [ix_le_nI (by omega)] at c7
      refine gs_k (nI 1) 13 a_X5_isPartition_12 (by decide +kernel) rfl ?_
      refine gs_n 17 a_X5_isPartition_13 rfl ?_
      refine gs_iret a_X5_isPartition_17 rfl rfl ?_
      rw [decide_eq_true (by omega)]
      rfl
end R4
