/-! The reference: refusals, registering, endings -/
section R2
variable {d : Nat} {h : ix_H} {P cap tmo clk cut sy torn : Nat} {cl : Bool} {X : List En} {tE : En} {tp an : List Nat} {n nx : Nat} {ep tx bg ba lc de mq en : Nat → Nat} {ad : Nat → Int32} {la : List (Nat × Nat × Nat)} {T : TS} {s : MS} {ar : Nat → Nat → Int32}
theorem RE.obj {T : TS} (w : RE h P cap tmo clk cl cut X sy torn tE tp an T) : h.2.2 96 = mcell (P, cap, tmo, clk, cl, cut, X.length, sy, torn, T.2.2.2.2.2.2.2.2.2.1, T.2.2.2.2.2.2.2.2.2.2.1.length, tp.length, an.length) := by
  obtain ⟨n, ep, tx, bg, ba, ad, lc, de, mq, nx, la, en⟩ := T
  obtain ⟨ar, w, -⟩ := w
  exact w.1
theorem r_bookHas (more opens : Nat) (hm : more ≤ 100) (ho : opens ≤ 100) (hP : P ≤ 8) (w : RE h P cap tmo clk cl cut X sy torn tE tp an T) : ev (d + 3) n_X5_bookHas [.ref 96, .int (nI more), .int (nI opens)] h (fun u => u = (some (.int (b01 (decide (sumOn (szF P P) X + more + 48 * opens ≤ 16000)))), h)) := by
  have w0 := w.obj
  simp only [mcell] at w0
  have hok := w.ok
  have hsum := sum_b (g := szF P P) hok.1 (fun e he => szF_le (hok.2 e he)) 0 X.length
  rw [List.drop_zero, List.take_length] at hsum
  refine ev_of q_X5_bookHas (Nat.le_of_ble_eq_true rfl) ?_
  refine gs_n 1 a_X5_bookHas_0 rfl ?_
  refine gs_n 2 a_X5_bookHas_1 rfl ?_
  refine gs_get 5 a_X5_bookHas_2 f_5_87 (by first | assumption | exact hs_same _ _ _ | exact (hs_ne _ _ (by first | assumption | decide | omega)).trans (by first | assumption | exact hs_same _ _ _ | exact (hs_ne _ _ (by first | assumption | decide | omega)).trans (by first | assumption | exact hs_same _ _ _ | exact (hs_ne _ _ (by first | assumption | decide | omega)).trans (by first | assumption | exact hs_same _ _ _ | exact (hs_ne _ _ (by first | assumption | decide | omega)).trans (by first | assumption | exact hs_same _ _ _))))) rfl rfl ?_
  refine gs_k (nI 0) 6 a_X5_bookHas_5 (by decide +kernel) rfl ?_
  refine gs_cv 9 a_X5_bookHas_6 k_5_125 q_X5_bytesFrom (r_bytesFrom P 0 hP (Nat.zero_le _) hP w) rfl rfl rfl (by simp [Value.category]) (by first | assumption | exact hs_same _ _ _ | exact (hs_ne _ _ (by first | assumption | decide | omega)).trans (by first | assumption | exact hs_same _ _ _ | exact (hs_ne _ _ (by first | assumption | decide | omega)).trans (by first | assumption | exact hs_same _ _ _ | exact (hs_ne _ _ (by first | assumption | decide | omega)).trans (by first | assumption | exact hs_same _ _ _ | exact (hs_ne _ _ (by first | assumption | decide | omega)).trans (by first | assumption | exact hs_same _ _ _))))) rfl (fun v h1 hp => ?_)
  cases hp
  rw [List.drop_zero]
  refine gs_n 10 a_X5_bookHas_9 rfl ?_
  refine gs_n 11 a_X5_bookHas_10 rfl ?_
  refine gs_k (nI 48) 13 a_X5_bookHas_11 (by decide +kernel) rfl ?_
  refine gs_n 14 a_X5_bookHas_13 rfl ?_
  refine gs_n 15 a_X5_bookHas_14 rfl ?_
  refine gs_n 16 a_X5_bookHas_15 rfl ?_
  refine gs_k (nI 16000) 19 a_X5_bookHas_16 (by decide +kernel) rfl ?_
  rw [nI_add, pk_mul, nI_add]
  refine gs_ic 26 22 a_X5_bookHas_19 rfl rfl (fun c => ?_) (fun c => ?_)
  · have c : nI 16000 < nI (sumOn (szF P P) X + more + 48 * opens) := c
    rw [nI_ltI (by omega) (by omega)] at c
    refine gs_k (nI 0) 27 a_X5_bookHas_26 (by decide +kernel) rfl ?_
    refine gs_iret a_X5_bookHas_27 rfl rfl ?_
    rw [decide_eq_false (by omega)]
    rfl
  · have c : ¬ nI 16000 < nI (sumOn (szF P P) X + more + 48 * opens) := c
    rw [nI_ltI (by omega) (by omega)] at c
    refine gs_k (nI 1) 23 a_X5_bookHas_22 (by decide +kernel) rfl ?_
    refine gs_n 27 a_X5_bookHas_23 rfl ?_
    refine gs_iret a_X5_bookHas_27 rfl rfl ?_
    rw [decide_eq_true (by omega)]
    rfl
/-- as bkF has it -/
theorem bk_eq {more : Nat} (hn : T.1 = (fl P X).length) : decide (sumOn (szF P P) X + 16 + 48 * (cntO T + more) ≤ 16000) = bkF T more := by
  unfold bkF
  rw [hn, bytesB_sum]
theorem r_refused (x e : Int32) (hb : ∀ k, k < 32 → T.2.1 k ≤ 1000) (w : RE h P cap tmo clk cl cut X sy torn tE tp an T) : ev (d + 1) n_X5_refused [.ref 96, .int x, .int e] h (fun u => u = (some (.int (refF cl T x e true)), h)) := by
  obtain ⟨n, ep, tx, bg, ba, ad, lc, de, mq, nx, la, en⟩ := T
  obtain ⟨ar, w, hE, -, hT, -⟩ := w
  obtain ⟨w0, w1, w2, w3, w4, w5, w6, w7, w8, w9, w10, w11, w12, w13, -⟩ := w
  simp only [mcell] at w0
  unfold refF
  refine ev_of q_X5_refused (Nat.le_of_ble_eq_true rfl) ?_
  refine gs_n 1 a_X5_refused_0 rfl ?_
  refine gs_get 4 a_X5_refused_1 f_5_99 (by first | assumption | exact hs_same _ _ _ | exact (hs_ne _ _ (by first | assumption | decide | omega)).trans (by first | assumption | exact hs_same _ _ _ | exact (hs_ne _ _ (by first | assumption | decide | omega)).trans (by first | assumption | exact hs_same _ _ _ | exact (hs_ne _ _ (by first | assumption | decide | omega)).trans (by first | assumption | exact hs_same _ _ _ | exact (hs_ne _ _ (by first | assumption | decide | omega)).trans (by first | assumption | exact hs_same _ _ _))))) rfl rfl ?_
  refine gs_if 9 7 a_X5_refused_4 rfl rfl (fun c4 => ?_) (fun c4 => ?_)
  · have c4 := (b01_0 _).mp c4
    rw [if_neg (by rw [c4]; simp), Bool.true_and]
    refine gs_n 10 a_X5_refused_9 rfl ?_
    refine gs_if 28 13 a_X5_refused_10 rfl rfl (fun c10 => ?_) (fun c10 => ?_)
    · have c10 : x < 0 := c10
      rw [lt0_iff] at c10
      rw [if_pos (by unfold rgs isK; rw [decide_eq_false (by omega)]; rfl)]
      refine gs_k (-2) 30 a_X5_refused_28 (by decide +kernel) rfl ?_
      refine gs_iret a_X5_refused_30 rfl rfl ?_
      rfl
    · have c10 : ¬ x < 0 := c10
      rw [lt0_iff] at c10
      refine gs_n 14 a_X5_refused_13 rfl ?_
      refine gs_k (nI 31) 16 a_X5_refused_14 (by decide +kernel) rfl ?_
      refine gs_ic 28 19 a_X5_refused_16 rfl rfl (fun c16 => ?_) (fun c16 => ?_)
      · have c16 : nI 31 < x := c16
        rw [lt_lit (by omega)] at c16
        rw [if_pos (by unfold rgs isK; rw [decide_eq_false (by omega)]; rfl)]
        refine gs_k (-2) 30 a_X5_refused_28 (by decide +kernel) rfl ?_
        refine gs_iret a_X5_refused_30 rfl rfl ?_
        rfl
      · have c16 : ¬ nI 31 < x := c16
        rw [lt_lit (by omega)] at c16
        have hx : x = nI (kn x) := nI_ofInt (by omega)
        have hk : kn x < 32 := by unfold kn; omega
        have hisK : isK x = true := by unfold isK; exact decide_eq_true (by omega)
        unfold rgs
        rw [hisK, Bool.true_and]
        generalize hkk : kn x = k at *
        subst hx
        obtain ⟨t1, t2, t3, t4, t5⟩ := hT.1 k hk
        have hbk := hb k hk
        refine gs_n 20 a_X5_refused_19 rfl ?_
        refine gs_get 23 a_X5_refused_20 f_5_36 (by first | assumption | exact hs_same _ _ _ | exact (hs_ne _ _ (by first | assumption | decide | omega)).trans (by first | assumption | exact hs_same _ _ _ | exact (hs_ne _ _ (by first | assumption | decide | omega)).trans (by first | assumption | exact hs_same _ _ _ | exact (hs_ne _ _ (by first | assumption | decide | omega)).trans (by first | assumption | exact hs_same _ _ _ | exact (hs_ne _ _ (by first | assumption | decide | omega)).trans (by first | assumption | exact hs_same _ _ _))))) rfl rfl ?_
        refine gs_n 24 a_X5_refused_23 rfl ?_
        refine gs_za k 25 a_X5_refused_24 (by first | assumption | exact hs_same _ _ _ | exact (hs_ne _ _ (by first | assumption | decide | omega)).trans (by first | assumption | exact hs_same _ _ _ | exact (hs_ne _ _ (by first | assumption | decide | omega)).trans (by first | assumption | exact hs_same _ _ _ | exact (hs_ne _ _ (by first | assumption | decide | omega)).trans (by first | assumption | exact hs_same _ _ _ | exact (hs_ne _ _ (by first | assumption | decide | omega)).trans (by first | assumption | exact hs_same _ _ _))))) rfl (by omega) (by omega) rfl ?_
        rw [t1]
        refine gs_if 31 28 a_X5_refused_25 rfl rfl (fun c25 => ?_) (fun c25 => ?_)
        · have c25 := (b01_ne _).mp c25
          have he : ep k ≠ 0 := by simpa using c25
          rw [if_neg (by simp [he])]
          rw [show m1 ((n, ep, tx, bg, ba, ad, lc, de, mq, nx, la, en).2.1 k) = nI (ep k - 1) from m1_p he]
          refine gs_n 32 a_X5_refused_31 rfl ?_
          refine gs_get 35 a_X5_refused_32 f_5_40 (by first | assumption | exact hs_same _ _ _ | exact (hs_ne _ _ (by first | assumption | decide | omega)).trans (by first | assumption | exact hs_same _ _ _ | exact (hs_ne _ _ (by first | assumption | decide | omega)).trans (by first | assumption | exact hs_same _ _ _ | exact (hs_ne _ _ (by first | assumption | decide | omega)).trans (by first | assumption | exact hs_same _ _ _ | exact (hs_ne _ _ (by first | assumption | decide | omega)).trans (by first | assumption | exact hs_same _ _ _))))) rfl rfl ?_
          refine gs_n 36 a_X5_refused_35 rfl ?_
          refine gs_ia k 37 a_X5_refused_36 (by first | assumption | exact hs_same _ _ _ | exact (hs_ne _ _ (by first | assumption | decide | omega)).trans (by first | assumption | exact hs_same _ _ _ | exact (hs_ne _ _ (by first | assumption | decide | omega)).trans (by first | assumption | exact hs_same _ _ _ | exact (hs_ne _ _ (by first | assumption | decide | omega)).trans (by first | assumption | exact hs_same _ _ _ | exact (hs_ne _ _ (by first | assumption | decide | omega)).trans (by first | assumption | exact hs_same _ _ _))))) rfl (by omega) (by omega) rfl ?_
          rw [t2 he]
          refine gs_n 38 a_X5_refused_37 rfl ?_
          refine gs_ic 45 41 a_X5_refused_38 rfl rfl (fun c38 => ?_) (fun c38 => ?_)
          · have c38 : ¬ nI (ep k - 1) = e := c38
            rw [if_neg c38]
            refine gs_k (-3) 47 a_X5_refused_45 (by decide +kernel) rfl ?_
            refine gs_iret a_X5_refused_47 rfl rfl ?_
            rfl
          · have c38 : nI (ep k - 1) = e := Classical.byContradiction c38
            rw [if_pos c38]
            refine gs_k (nI 0) 42 a_X5_refused_41 (by decide +kernel) rfl ?_
            refine gs_n 47 a_X5_refused_42 rfl ?_
            refine gs_iret a_X5_refused_47 rfl rfl ?_
            rfl
        · have c25 : (!decide (ep k = 0)) = false := (b01_0 _).mp (Classical.byContradiction c25)
          rw [if_pos c25]
          refine gs_k (-2) 30 a_X5_refused_28 (by decide +kernel) rfl ?_
          refine gs_iret a_X5_refused_30 rfl rfl ?_
          rfl
  · have c4 := (b01_ne _).mp c4
    rw [if_pos c4]
    refine gs_k (-1) 8 a_X5_refused_7 (by decide +kernel) rfl ?_
    refine gs_iret a_X5_refused_8 rfl rfl ?_
    rfl
theorem len42 (hP : P ≤ 8) (hcap : cap ≤ 4000) (hv : pv P cap X) : X.length ≤ 3280 := by
  obtain ⟨n, ep, tx, bg, ba, ad, lc, de, mq, nx, la, en, hT⟩ := told_ex P X
  have hg : GT P cap X (n, ep, tx, bg, ba, ad, lc, de, mq, nx, la, en) := hT ▸ pv_all hv
  have h1 := len_bound hP hcap hg.1.2.2.2.1 (fun p hp => Nat.le_trans (Nat.le_add_right _ _) (hg.2.2.2.2.2 p hp))
  have h2 := hg.2.2.2.2.1
  have h3 := hg.1.1
  omega
theorem r_regX {k : Nat} (hk : k < 32) (hP : P ≤ 8) (hcap : cap ≤ 4000) (hv : pv P cap X) (ht : (told P X).2.2.1 k = 0) (hr : 16 * (told P X).1 + 16 + sm (res (told P X).2.2.1 (told P X).2.2.2.2.2.2.2.1) 32 ≤ 16000) (w : RE h P cap tmo clk cl cut X sy 0 tE tp an (told P X)) : ev (d + 2) n_X5_registers [.ref 96, .int (nI k)] h (fun u => u.1 = none ∧ FS cM h u.2 ∧ RE u.2 P cap tmo clk cl cut (regX P X k) sy 0 tE tp an (told P (regX P X k))) := by
  have hlen := len42 hP hcap hv
  obtain ⟨n, ep, tx, bg, ba, ad, lc, de, mq, nx, la, en, hT⟩ := told_ex P X
  have hg : GT P cap X (n, ep, tx, bg, ba, ad, lc, de, mq, nx, la, en) := hT ▸ pv_all hv
  rw [hT] at w ht hr
  have h1 := pv_reg hP hv hT hk ht hr
  have h2 : regX P X k = X ++ [(P, 0, k, ep k, 0, 0, 0, [])] := by unfold regX; rw [hT]
  have hepb := (hg.1.2.2.2.2.1 k hk).1
  have hr1 := hg.2.2.2.2.1
  rw [h2, h1.2]
  obtain ⟨ar, w, hE, -, hTR, h18, h19⟩ := w
  obtain ⟨t1, t2, t3, t4, t5⟩ := hTR.1 k hk
  have fin : ∀ v, v = nI (ep k) → gs none (d + 1) mD_X5_registers (26, [(0, .ref 96), (1, .int (nI k))], [.int v, .int (nI k), .ref 106], h) (fun u => u.1 = none ∧ FS cM h u.2 ∧ RE u.2 P cap tmo clk cl cut (X ++ [(P, 0, k, ep k, 0, 0, 0, [])]) sy 0 tE tp an (n + 1, va_up ep k (ep k + 1), tx, bg, ba, ad, lc, de, mq, nx, la, en)) := by
    intro v hv'
    subst hv'
    have wd := (w.s9 (upd (ar 9) k (nI (ep k)))).s8 (upd (va_up ar 9 (upd (ar 9) k (nI (ep k))) 8) k (nI 1 &&& 1))
    obtain ⟨w0, w1, w2, w3, w4, w5, w6, w7, w8, w9, w10, w11, w12, w13, -⟩ := w
    simp only [mcell] at w0
    refine gs_is k 27 a_X5_registers_26 (by first | assumption | exact hs_same _ _ _ | exact (hs_ne _ _ (by first | assumption | decide | omega)).trans (by first | assumption | exact hs_same _ _ _ | exact (hs_ne _ _ (by first | assumption | decide | omega)).trans (by first | assumption | exact hs_same _ _ _ | exact (hs_ne _ _ (by first | assumption | decide | omega)).trans (by first | assumption | exact hs_same _ _ _ | exact (hs_ne _ _ (by first | assumption | decide | omega)).trans (by first | assumption | exact hs_same _ _ _))))) rfl (by omega) (by omega) rfl ?_
    refine gs_n 28 a_X5_registers_27 rfl ?_
    refine gs_get 31 a_X5_registers_28 f_5_36 (by first | assumption | exact hs_same _ _ _ | exact (hs_ne _ _ (by first | assumption | decide | omega)).trans (by first | assumption | exact hs_same _ _ _ | exact (hs_ne _ _ (by first | assumption | decide | omega)).trans (by first | assumption | exact hs_same _ _ _ | exact (hs_ne _ _ (by first | assumption | decide | omega)).trans (by first | assumption | exact hs_same _ _ _ | exact (hs_ne _ _ (by first | assumption | decide | omega)).trans (by first | assumption | exact hs_same _ _ _))))) rfl rfl ?_
    refine gs_n 32 a_X5_registers_31 rfl ?_
    refine gs_k (nI 1) 33 a_X5_registers_32 (by decide +kernel) rfl ?_
    refine gs_zs k 34 a_X5_registers_33 (by first | assumption | exact hs_same _ _ _ | exact (hs_ne _ _ (by first | assumption | decide | omega)).trans (by first | assumption | exact hs_same _ _ _ | exact (hs_ne _ _ (by first | assumption | decide | omega)).trans (by first | assumption | exact hs_same _ _ _ | exact (hs_ne _ _ (by first | assumption | decide | omega)).trans (by first | assumption | exact hs_same _ _ _ | exact (hs_ne _ _ (by first | assumption | decide | omega)).trans (by first | assumption | exact hs_same _ _ _))))) rfl (by omega) (by omega) rfl ?_
    have w2' : RE (ix_set (ix_set h 106 (.inl (.int, 32, .inl (upd (ar 9) k (nI (ep k)))))) 105 (.inl (.boolean, 32, .inl (upd (ar 8) k (nI 1 &&& 1))))) P cap tmo clk cl cut X sy 0 tE tp an (n + 1, va_up ep k (ep k + 1), tx, bg, ba, ad, lc, de, mq, nx, la, en) := by
      refine ⟨_, wd, ?_, fun z => absurd z (by omega), ?_, h18, h19⟩
      · obtain ⟨q1, q2, q3⟩ := hE
        exact ⟨q1, q2, q3⟩
      · obtain ⟨u1, u2, u3, u4⟩ := hTR
        refine ⟨?_, u2, u3, u4⟩
        intro j hj
        by_cases z : j = k
        · subst z
          rw [va_up_self]
          refine ⟨?_, fun _ => ?_, t3, t4, t5⟩
          · show upd (ar 8) j (nI 1 &&& 1) j = _
            rw [upd_s, va_up_self, decide_eq_false (Nat.succ_ne_zero _)]
            decide +kernel
          · show upd (ar 9) j (nI (ep j)) j = _
            rw [upd_s, va_up_self, Nat.add_sub_cancel]
        · rw [va_up_ne _ _ z]
          obtain ⟨v1, v2, v3, v4, v5⟩ := u1 j hj
          refine ⟨?_, fun q => ?_, v3, v4, v5⟩
          · show upd (ar 8) k (nI 1 &&& 1) j = _
            rw [upd_n z]; exact v1
          · show upd (ar 9) k (nI (ep k)) j = _
            rw [upd_n z]; exact v2 q
    refine gs_n 35 a_X5_registers_34 rfl ?_
    refine gs_n 36 a_X5_registers_35 rfl ?_
    refine gs_get 39 a_X5_registers_36 f_5_87 (by first | assumption | exact hs_same _ _ _ | exact (hs_ne _ _ (by first | assumption | decide | omega)).trans (by first | assumption | exact hs_same _ _ _ | exact (hs_ne _ _ (by first | assumption | decide | omega)).trans (by first | assumption | exact hs_same _ _ _ | exact (hs_ne _ _ (by first | assumption | decide | omega)).trans (by first | assumption | exact hs_same _ _ _ | exact (hs_ne _ _ (by first | assumption | decide | omega)).trans (by first | assumption | exact hs_same _ _ _))))) rfl rfl ?_
    refine gs_k (nI 0) 40 a_X5_registers_39 (by decide +kernel) rfl ?_
    refine gs_n 41 a_X5_registers_40 rfl ?_
    refine gs_n 42 a_X5_registers_41 rfl ?_
    refine gs_get 45 a_X5_registers_42 f_5_40 (by first | assumption | exact hs_same _ _ _ | exact (hs_ne _ _ (by first | assumption | decide | omega)).trans (by first | assumption | exact hs_same _ _ _ | exact (hs_ne _ _ (by first | assumption | decide | omega)).trans (by first | assumption | exact hs_same _ _ _ | exact (hs_ne _ _ (by first | assumption | decide | omega)).trans (by first | assumption | exact hs_same _ _ _ | exact (hs_ne _ _ (by first | assumption | decide | omega)).trans (by first | assumption | exact hs_same _ _ _))))) rfl rfl ?_
    refine gs_n 46 a_X5_registers_45 rfl ?_
    refine gs_ia k 47 a_X5_registers_46 (by first | assumption | exact hs_same _ _ _ | exact (hs_ne _ _ (by first | assumption | decide | omega)).trans (by first | assumption | exact hs_same _ _ _ | exact (hs_ne _ _ (by first | assumption | decide | omega)).trans (by first | assumption | exact hs_same _ _ _ | exact (hs_ne _ _ (by first | assumption | decide | omega)).trans (by first | assumption | exact hs_same _ _ _ | exact (hs_ne _ _ (by first | assumption | decide | omega)).trans (by first | assumption | exact hs_same _ _ _))))) rfl (by omega) (by omega) rfl ?_
    rw [upd_s]
    refine gs_k (nI 0) 48 a_X5_registers_47 (by decide +kernel) rfl ?_
    refine gs_k (nI 0) 49 a_X5_registers_48 (by decide +kernel) rfl ?_
    refine gs_cv 52 a_X5_registers_49 k_5_129 q_X5_add (r_add P 0 k (ep k) 0 0 (by omega) (okE_book hP (by omega) hk (by omega) (by omega) (by omega) (by omega)).1 w2') rfl rfl rfl (by simp [Value.category]) (by first | assumption | exact hs_same _ _ _ | exact (hs_ne _ _ (by first | assumption | decide | omega)).trans (by first | assumption | exact hs_same _ _ _ | exact (hs_ne _ _ (by first | assumption | decide | omega)).trans (by first | assumption | exact hs_same _ _ _ | exact (hs_ne _ _ (by first | assumption | decide | omega)).trans (by first | assumption | exact hs_same _ _ _ | exact (hs_ne _ _ (by first | assumption | decide | omega)).trans (by first | assumption | exact hs_same _ _ _))))) rfl (fun v h3 hp => ?_)
    obtain ⟨e1, hF, w3⟩ := hp
    simp only at e1
    subst e1
    refine gs_n 53 a_X5_registers_52 rfl ?_
    refine gs_vret a_X5_registers_53 rfl ?_
    exact ⟨rfl, ((FS.m _ (by omega)).trans (FS.m _ (by omega))).trans hF, w3⟩
  obtain ⟨w0, w1, w2, w3, w4, w5, w6, w7, w8, w9, w10, w11, w12, w13, -⟩ := w
  simp only [mcell] at w0
  refine ev_of q_X5_registers (Nat.le_of_ble_eq_true rfl) ?_
  refine gs_n 1 a_X5_registers_0 rfl ?_
  refine gs_get 4 a_X5_registers_1 f_5_40 (by first | assumption | exact hs_same _ _ _ | exact (hs_ne _ _ (by first | assumption | decide | omega)).trans (by first | assumption | exact hs_same _ _ _ | exact (hs_ne _ _ (by first | assumption | decide | omega)).trans (by first | assumption | exact hs_same _ _ _ | exact (hs_ne _ _ (by first | assumption | decide | omega)).trans (by first | assumption | exact hs_same _ _ _ | exact (hs_ne _ _ (by first | assumption | decide | omega)).trans (by first | assumption | exact hs_same _ _ _))))) rfl rfl ?_
  refine gs_n 5 a_X5_registers_4 rfl ?_
  refine gs_n 6 a_X5_registers_5 rfl ?_
  refine gs_get 9 a_X5_registers_6 f_5_36 (by first | assumption | exact hs_same _ _ _ | exact (hs_ne _ _ (by first | assumption | decide | omega)).trans (by first | assumption | exact hs_same _ _ _ | exact (hs_ne _ _ (by first | assumption | decide | omega)).trans (by first | assumption | exact hs_same _ _ _ | exact (hs_ne _ _ (by first | assumption | decide | omega)).trans (by first | assumption | exact hs_same _ _ _ | exact (hs_ne _ _ (by first | assumption | decide | omega)).trans (by first | assumption | exact hs_same _ _ _))))) rfl rfl ?_
  refine gs_n 10 a_X5_registers_9 rfl ?_
  refine gs_za k 11 a_X5_registers_10 (by first | assumption | exact hs_same _ _ _ | exact (hs_ne _ _ (by first | assumption | decide | omega)).trans (by first | assumption | exact hs_same _ _ _ | exact (hs_ne _ _ (by first | assumption | decide | omega)).trans (by first | assumption | exact hs_same _ _ _ | exact (hs_ne _ _ (by first | assumption | decide | omega)).trans (by first | assumption | exact hs_same _ _ _ | exact (hs_ne _ _ (by first | assumption | decide | omega)).trans (by first | assumption | exact hs_same _ _ _))))) rfl (by omega) (by omega) rfl ?_
  rw [t1]
  refine gs_if 25 14 a_X5_registers_11 rfl rfl (fun c => ?_) (fun c => ?_)
  · have c := (b01_0 _).mp c
    have he : ep k = 0 := by simpa using c
    refine gs_k (nI 0) 26 a_X5_registers_25 (by decide +kernel) rfl ?_
    exact fin _ (by rw [he])
  · have c := (b01_ne _).mp c
    have he : ep k ≠ 0 := by simpa using c
    refine gs_n 15 a_X5_registers_14 rfl ?_
    refine gs_get 18 a_X5_registers_15 f_5_40 (by first | assumption | exact hs_same _ _ _ | exact (hs_ne _ _ (by first | assumption | decide | omega)).trans (by first | assumption | exact hs_same _ _ _ | exact (hs_ne _ _ (by first | assumption | decide | omega)).trans (by first | assumption | exact hs_same _ _ _ | exact (hs_ne _ _ (by first | assumption | decide | omega)).trans (by first | assumption | exact hs_same _ _ _ | exact (hs_ne _ _ (by first | assumption | decide | omega)).trans (by first | assumption | exact hs_same _ _ _))))) rfl rfl ?_
    refine gs_n 19 a_X5_registers_18 rfl ?_
    refine gs_ia k 20 a_X5_registers_19 (by first | assumption | exact hs_same _ _ _ | exact (hs_ne _ _ (by first | assumption | decide | omega)).trans (by first | assumption | exact hs_same _ _ _ | exact (hs_ne _ _ (by first | assumption | decide | omega)).trans (by first | assumption | exact hs_same _ _ _ | exact (hs_ne _ _ (by first | assumption | decide | omega)).trans (by first | assumption | exact hs_same _ _ _ | exact (hs_ne _ _ (by first | assumption | decide | omega)).trans (by first | assumption | exact hs_same _ _ _))))) rfl (by omega) (by omega) rfl ?_
    rw [t2 he]
    refine gs_k (nI 1) 21 a_X5_registers_20 (by decide +kernel) rfl ?_
    refine gs_n 22 a_X5_registers_21 rfl ?_
    refine gs_n 26 a_X5_registers_22 rfl ?_
    exact fin _ (by rw [nI_add]; congr 1; omega)
theorem mkOf_sn (l : List (Nat × Nat × Nat)) (x : Nat × Nat × Nat) (t : Nat) (mq : Nat → Nat) : mkOf (l ++ [x]) t mq = if x.1 = t then va_up (mkOf l t mq) x.2.1 (x.2.2 + 1) else mkOf l t mq := by
  unfold mkOf
  rw [List.foldl_append]
  rfl
theorem take_snocL {l : List (Nat × Nat × Nat)} {j : Nat} (h : j < l.length) : l.take (j + 1) = l.take j ++ [l.getD j (0, 0, 0)] := by
  rw [List.take_add_one]
  simp [List.getD, List.getElem?_eq_getElem h]
theorem getD_memL {l : List (Nat × Nat × Nat)} {j : Nat} (h : j < l.length) : l.getD j (0, 0, 0) ∈ l := by
  simp only [List.getD, List.getElem?_eq_getElem h, Option.getD_some]
  exact List.getElem_mem _
theorem va_idem {f : Nat → Nat → Int32} {k : Nat} {a b : Nat → Int32} : va_up (va_up f k a) k b = va_up f k b := by
  funext j
  by_cases z : j = k
  · subst z; rw [va_up_self, va_up_self]
  · rw [va_up_ne _ _ z, va_up_ne _ _ z, va_up_ne _ _ z]
theorem l_marksOf {a0 a1 a2 a3 : Nat} {a4 : Bool} {a5 a6 a7 a8 a9 a11 a12 : Nat} {t : Nat} (ht : t < 2 ^ 30) (hla : ∀ x ∈ la, x.1 < 2 ^ 30 ∧ x.2.1 < 64) (hll : la.length ≤ 1000) (h4 : ∀ i, i < la.length → ar 15 i = nI (la.getD i (0, 0, 0)).1 ∧ ar 16 i = nI (la.getD i (0, 0, 0)).2.1 ∧ ar 17 i = nI (la.getD i (0, 0, 0)).2.2) : ∀ (r i : Nat) (h : ix_H) (g : Nat → Int32), i + r = la.length → MW h (a0, a1, a2, a3, a4, a5, a6, a7, a8, a9, la.length, a11, a12) (va_up ar 13 g) → (∀ j, j < 64 → g j = m1 (mkOf (la.take i) t mq j)) →
    gs none d mD_X5_marksOf (2, [(2, .int (nI i)), (0, .ref 96), (1, .int (nI t))], [], h) (fun u => u.1 = none ∧ FS cM h u.2 ∧ ∃ g', MW u.2 (a0, a1, a2, a3, a4, a5, a6, a7, a8, a9, la.length, a11, a12) (va_up ar 13 g') ∧ ∀ j, j < 64 → g' j = m1 (mkOf la t mq j)) := by
  intro r
  induction r with
  | zero =>
    intro i h g hi w hg
    obtain ⟨w0, -⟩ := id w
    simp only [mcell] at w0
    refine gs_n 3 a_X5_marksOf_2 rfl ?_
    refine gs_n 4 a_X5_marksOf_3 rfl ?_
    refine gs_get 7 a_X5_marksOf_4 f_5_84 (by first | assumption | exact hs_same _ _ _ | exact (hs_ne _ _ (by first | assumption | decide | omega)).trans (by first | assumption | exact hs_same _ _ _ | exact (hs_ne _ _ (by first | assumption | decide | omega)).trans (by first | assumption | exact hs_same _ _ _ | exact (hs_ne _ _ (by first | assumption | decide | omega)).trans (by first | assumption | exact hs_same _ _ _ | exact (hs_ne _ _ (by first | assumption | decide | omega)).trans (by first | assumption | exact hs_same _ _ _))))) rfl rfl ?_
    refine gs_ic 43 10 a_X5_marksOf_7 rfl rfl (fun c => ?_) (fun c => ?_)
    · refine gs_vret a_X5_marksOf_43 rfl ?_
      rw [List.take_of_length_le (by omega)] at hg
      exact ⟨rfl, FS.rf _ _, g, w, hg⟩
    · exact absurd (nI_le (by omega) (by omega)) c
  | succ r ih =>
    intro i h g hi w hg
    have hil : i < la.length := by omega
    obtain ⟨q1, q2, q3⟩ := h4 i hil
    obtain ⟨x1, x2⟩ := hla _ (getD_memL hil)
    obtain ⟨w0, w1, w2, w3, w4, w5, w6, w7, w8, w9, w10, w11, w12, w13, w14, w15, w16, w17, w18, -⟩ := id w
    simp only [mcell] at w0
    rw [va_up_ne _ _ (by decide)] at w16 w17 w18
    refine gs_n 3 a_X5_marksOf_2 rfl ?_
    refine gs_n 4 a_X5_marksOf_3 rfl ?_
    refine gs_get 7 a_X5_marksOf_4 f_5_84 (by first | assumption | exact hs_same _ _ _ | exact (hs_ne _ _ (by first | assumption | decide | omega)).trans (by first | assumption | exact hs_same _ _ _ | exact (hs_ne _ _ (by first | assumption | decide | omega)).trans (by first | assumption | exact hs_same _ _ _ | exact (hs_ne _ _ (by first | assumption | decide | omega)).trans (by first | assumption | exact hs_same _ _ _ | exact (hs_ne _ _ (by first | assumption | decide | omega)).trans (by first | assumption | exact hs_same _ _ _))))) rfl rfl ?_
    refine gs_ic 43 10 a_X5_marksOf_7 rfl rfl (fun c => ?_) (fun c => ?_)
    · exact absurd c (nI_ge (by omega) (by omega))
    · refine gs_n 11 a_X5_marksOf_10 rfl ?_
      refine gs_get 14 a_X5_marksOf_11 f_5_58 (by first | assumption | exact hs_same _ _ _ | exact (hs_ne _ _ (by first | assumption | decide | omega)).trans (by first | assumption | exact hs_same _ _ _ | exact (hs_ne _ _ (by first | assumption | decide | omega)).trans (by first | assumption | exact hs_same _ _ _ | exact (hs_ne _ _ (by first | assumption | decide | omega)).trans (by first | assumption | exact hs_same _ _ _ | exact (hs_ne _ _ (by first | assumption | decide | omega)).trans (by first | assumption | exact hs_same _ _ _))))) rfl rfl ?_
      refine gs_n 15 a_X5_marksOf_14 rfl ?_
      refine gs_ia i 16 a_X5_marksOf_15 (by first | assumption | exact hs_same _ _ _ | exact (hs_ne _ _ (by first | assumption | decide | omega)).trans (by first | assumption | exact hs_same _ _ _ | exact (hs_ne _ _ (by first | assumption | decide | omega)).trans (by first | assumption | exact hs_same _ _ _ | exact (hs_ne _ _ (by first | assumption | decide | omega)).trans (by first | assumption | exact hs_same _ _ _ | exact (hs_ne _ _ (by first | assumption | decide | omega)).trans (by first | assumption | exact hs_same _ _ _))))) rfl (by omega) (by omega) rfl ?_
      rw [q1]
      refine gs_n 17 a_X5_marksOf_16 rfl ?_
      refine gs_ic 37 20 a_X5_marksOf_17 rfl rfl (fun c2 => ?_) (fun c2 => ?_)
      · have c2 : ¬ nI (la.getD i (0, 0, 0)).1 = nI t := c2
        rw [nI_eq (by omega) (by omega)] at c2
        first | refine gs_inc _ 40 a_X5_marksOf_37 rfl (Nat.le_of_ble_eq_true rfl) rfl ?_ | refine gs_n 40 a_X5_marksOf_37 rfl ?_
        refine gs_n 2 a_X5_marksOf_40 rfl ?_
        refine gs_w [(2, .int (nI (i + 1))), (0, .ref 96), (1, .int (nI t))] (by simp [ix_nd]) (by intro x hx; simp only [List.mem_cons, List.not_mem_nil, or_false] at hx; rcases hx with rfl | rfl | rfl <;> rfl) ?_
        refine ih (i + 1) h g (by omega) w ?_
        intro j hj
        rw [take_snocL hil, mkOf_sn, if_neg c2]
        exact hg j hj
      · have c2 : nI (la.getD i (0, 0, 0)).1 = nI t := Classical.byContradiction c2
        rw [nI_eq (by omega) (by omega)] at c2
        refine gs_n 21 a_X5_marksOf_20 rfl ?_
        refine gs_get 24 a_X5_marksOf_21 f_5_52 (by first | assumption | exact hs_same _ _ _ | exact (hs_ne _ _ (by first | assumption | decide | omega)).trans (by first | assumption | exact hs_same _ _ _ | exact (hs_ne _ _ (by first | assumption | decide | omega)).trans (by first | assumption | exact hs_same _ _ _ | exact (hs_ne _ _ (by first | assumption | decide | omega)).trans (by first | assumption | exact hs_same _ _ _ | exact (hs_ne _ _ (by first | assumption | decide | omega)).trans (by first | assumption | exact hs_same _ _ _))))) rfl rfl ?_
        refine gs_n 25 a_X5_marksOf_24 rfl ?_
        refine gs_get 28 a_X5_marksOf_25 f_5_61 (by first | assumption | exact hs_same _ _ _ | exact (hs_ne _ _ (by first | assumption | decide | omega)).trans (by first | assumption | exact hs_same _ _ _ | exact (hs_ne _ _ (by first | assumption | decide | omega)).trans (by first | assumption | exact hs_same _ _ _ | exact (hs_ne _ _ (by first | assumption | decide | omega)).trans (by first | assumption | exact hs_same _ _ _ | exact (hs_ne _ _ (by first | assumption | decide | omega)).trans (by first | assumption | exact hs_same _ _ _))))) rfl rfl ?_
        refine gs_n 29 a_X5_marksOf_28 rfl ?_
        refine gs_ia i 30 a_X5_marksOf_29 (by first | assumption | exact hs_same _ _ _ | exact (hs_ne _ _ (by first | assumption | decide | omega)).trans (by first | assumption | exact hs_same _ _ _ | exact (hs_ne _ _ (by first | assumption | decide | omega)).trans (by first | assumption | exact hs_same _ _ _ | exact (hs_ne _ _ (by first | assumption | decide | omega)).trans (by first | assumption | exact hs_same _ _ _ | exact (hs_ne _ _ (by first | assumption | decide | omega)).trans (by first | assumption | exact hs_same _ _ _))))) rfl (by omega) (by omega) rfl ?_
        rw [q2]
        refine gs_n 31 a_X5_marksOf_30 rfl ?_
        refine gs_get 34 a_X5_marksOf_31 f_5_64 (by first | assumption | exact hs_same _ _ _ | exact (hs_ne _ _ (by first | assumption | decide | omega)).trans (by first | assumption | exact hs_same _ _ _ | exact (hs_ne _ _ (by first | assumption | decide | omega)).trans (by first | assumption | exact hs_same _ _ _ | exact (hs_ne _ _ (by first | assumption | decide | omega)).trans (by first | assumption | exact hs_same _ _ _ | exact (hs_ne _ _ (by first | assumption | decide | omega)).trans (by first | assumption | exact hs_same _ _ _))))) rfl rfl ?_
        refine gs_n 35 a_X5_marksOf_34 rfl ?_
        refine gs_ia i 36 a_X5_marksOf_35 (by first | assumption | exact hs_same _ _ _ | exact (hs_ne _ _ (by first | assumption | decide | omega)).trans (by first | assumption | exact hs_same _ _ _ | exact (hs_ne _ _ (by first | assumption | decide | omega)).trans (by first | assumption | exact hs_same _ _ _ | exact (hs_ne _ _ (by first | assumption | decide | omega)).trans (by first | assumption | exact hs_same _ _ _ | exact (hs_ne _ _ (by first | assumption | decide | omega)).trans (by first | assumption | exact hs_same _ _ _))))) rfl (by omega) (by omega) rfl ?_
        rw [q3]
        refine gs_is ((la.getD i (0, 0, 0)).2.1) 37 a_X5_marksOf_36 (by first | assumption | exact hs_same _ _ _ | exact (hs_ne _ _ (by first | assumption | decide | omega)).trans (by first | assumption | exact hs_same _ _ _ | exact (hs_ne _ _ (by first | assumption | decide | omega)).trans (by first | assumption | exact hs_same _ _ _ | exact (hs_ne _ _ (by first | assumption | decide | omega)).trans (by first | assumption | exact hs_same _ _ _ | exact (hs_ne _ _ (by first | assumption | decide | omega)).trans (by first | assumption | exact hs_same _ _ _))))) rfl (by omega) (by omega) rfl ?_
        first | refine gs_inc _ 40 a_X5_marksOf_37 rfl (Nat.le_of_ble_eq_true rfl) rfl ?_ | refine gs_n 40 a_X5_marksOf_37 rfl ?_
        refine gs_n 2 a_X5_marksOf_40 rfl ?_
        refine gs_w [(2, .int (nI (i + 1))), (0, .ref 96), (1, .int (nI t))] (by simp [ix_nd]) (by intro x hx; simp only [List.mem_cons, List.not_mem_nil, or_false] at hx; rcases hx with rfl | rfl | rfl <;> rfl) ?_
        have wd := w.s13 (upd (va_up ar 13 g 13) (la.getD i (0, 0, 0)).2.1 (nI (la.getD i (0, 0, 0)).2.2))
        rw [va_idem] at wd
        refine gs_post (ih (i + 1) _ _ (by omega) wd ?_) ?_
        · intro j hj
          rw [take_snocL hil, mkOf_sn, if_pos c2, va_up_self]
          by_cases z : j = (la.getD i (0, 0, 0)).2.1
          · subst z
            rw [upd_s, va_up_self, m1_s]
          · rw [upd_n z, va_up_ne _ _ z]
            exact hg j hj
        · rintro u ⟨e1, hF, k⟩
          exact ⟨e1, (FS.m _ (by omega)).trans hF, k⟩
theorem r_closes {k : Nat} (c : Bool) (hk : k < 32) (ht : tx k ≠ 0) (htn : tx k ≤ nx) (hnx : nx ≤ 1000) (hdist : ∀ j, j < 32 → tx j = tx k → j = k) (hla : ∀ x ∈ la, x.1 < nx ∧ x.2.1 < 64 ∧ x.2.2 < 2 ^ 31) (hll : la.length ≤ 1000) (w : RE h P cap tmo clk cl cut X sy torn tE tp an (n, ep, tx, bg, ba, ad, lc, de, mq, nx, la, en)) : ev (d + 2) n_X5_closes [.ref 96, .int (nI k), .int (b01 c)] h (fun u => u.1 = none ∧ FS cM h u.2 ∧ RE u.2 P cap tmo clk cl cut X sy torn tE tp an (n, ep, va_up tx k 0, bg, ba, va_up ad k (nI 0), lc, de, (if c then mkOf la (tx k - 1) mq else mq), nx, la, va_up en (tx k - 1) (if c then 1 else 2))) := by
  obtain ⟨ar, w, hE, htorn, hTR, h18, h19⟩ := w
  obtain ⟨t1, t2, t3, t4, t5⟩ := hTR.1 k hk
  rw [m1_p ht] at t3
  have last : ∀ (h2 : ix_H) (g : Nat → Int32), FS cM h h2 → MW h2 (P, cap, tmo, clk, cl, cut, X.length, sy, torn, nx, la.length, tp.length, an.length) (va_up (va_up ar 14 (upd (ar 14) (tx k - 1) (nI (if c then 1 else 2)))) 13 g) → (∀ j, j < 64 → g j = m1 ((if c then mkOf la (tx k - 1) mq else mq) j)) → gs none (d + 1) mD_X5_closes (31, [(0, .ref 96), (1, .int (nI k))], [], h2) (fun u => u.1 = none ∧ FS cM h u.2 ∧ RE u.2 P cap tmo clk cl cut X sy torn tE tp an (n, ep, va_up tx k 0, bg, ba, va_up ad k (nI 0), lc, de, (if c then mkOf la (tx k - 1) mq else mq), nx, la, va_up en (tx k - 1) (if c then 1 else 2))) := by
    intro h2 g hF2 w2 hg
    have wd := (w2.s10 (upd (ar 10) k (-1))).s12 (upd (ar 12) k (nI 0))
    obtain ⟨w0, w1, w2, w3, w4, w5, w6, w7, w8, w9, w10, w11, w12, w13, w14, -⟩ := w2
    simp only [mcell] at w0
    refine gs_n 32 a_X5_closes_31 rfl ?_
    refine gs_get 35 a_X5_closes_32 f_5_43 (by first | assumption | exact hs_same _ _ _ | exact (hs_ne _ _ (by first | assumption | decide | omega)).trans (by first | assumption | exact hs_same _ _ _ | exact (hs_ne _ _ (by first | assumption | decide | omega)).trans (by first | assumption | exact hs_same _ _ _ | exact (hs_ne _ _ (by first | assumption | decide | omega)).trans (by first | assumption | exact hs_same _ _ _ | exact (hs_ne _ _ (by first | assumption | decide | omega)).trans (by first | assumption | exact hs_same _ _ _))))) rfl rfl ?_
    refine gs_n 36 a_X5_closes_35 rfl ?_
    refine gs_k (-1) 37 a_X5_closes_36 (by decide +kernel) rfl ?_
    refine gs_is k 38 a_X5_closes_37 (by first | assumption | exact hs_same _ _ _ | exact (hs_ne _ _ (by first | assumption | decide | omega)).trans (by first | assumption | exact hs_same _ _ _ | exact (hs_ne _ _ (by first | assumption | decide | omega)).trans (by first | assumption | exact hs_same _ _ _ | exact (hs_ne _ _ (by first | assumption | decide | omega)).trans (by first | assumption | exact hs_same _ _ _ | exact (hs_ne _ _ (by first | assumption | decide | omega)).trans (by first | assumption | exact hs_same _ _ _))))) rfl (by omega) (by omega) rfl ?_
    refine gs_n 39 a_X5_closes_38 rfl ?_
    refine gs_get 42 a_X5_closes_39 f_5_49 (by first | assumption | exact hs_same _ _ _ | exact (hs_ne _ _ (by first | assumption | decide | omega)).trans (by first | assumption | exact hs_same _ _ _ | exact (hs_ne _ _ (by first | assumption | decide | omega)).trans (by first | assumption | exact hs_same _ _ _ | exact (hs_ne _ _ (by first | assumption | decide | omega)).trans (by first | assumption | exact hs_same _ _ _ | exact (hs_ne _ _ (by first | assumption | decide | omega)).trans (by first | assumption | exact hs_same _ _ _))))) rfl rfl ?_
    refine gs_n 43 a_X5_closes_42 rfl ?_
    refine gs_k (nI 0) 44 a_X5_closes_43 (by decide +kernel) rfl ?_
    refine gs_is k 45 a_X5_closes_44 (by first | assumption | exact hs_same _ _ _ | exact (hs_ne _ _ (by first | assumption | decide | omega)).trans (by first | assumption | exact hs_same _ _ _ | exact (hs_ne _ _ (by first | assumption | decide | omega)).trans (by first | assumption | exact hs_same _ _ _ | exact (hs_ne _ _ (by first | assumption | decide | omega)).trans (by first | assumption | exact hs_same _ _ _ | exact (hs_ne _ _ (by first | assumption | decide | omega)).trans (by first | assumption | exact hs_same _ _ _))))) rfl (by omega) (by omega) rfl ?_
    refine gs_vret a_X5_closes_45 rfl ?_
    refine ⟨rfl, hF2.trans ((FS.m _ (by omega)).trans (FS.m _ (by omega))), _, wd, ?_, ?_, ?_, h18, h19⟩
    · obtain ⟨q1, q2, q3⟩ := hE
      exact ⟨q1, q2, q3⟩
    · exact htorn
    · obtain ⟨u1, u2, u3, u4⟩ := hTR
      refine ⟨?_, hg, ?_, u4⟩
      · intro j hj
        obtain ⟨v1, v2, v3, v4, v5⟩ := u1 j hj
        by_cases z : j = k
        · subst z
          rw [va_up_self, va_up_self]
          refine ⟨v1, v2, ?_, fun q => absurd rfl q, ?_⟩
          · show upd (ar 10) j (-1) j = _
            rw [upd_s, m1_0]
          · show upd (ar 12) j (nI 0) j = _
            rw [upd_s, va_up_self]
        · rw [va_up_ne _ _ z, va_up_ne _ _ z]
          refine ⟨v1, v2, ?_, v4, ?_⟩
          · show upd (ar 10) k (-1) j = _
            rw [upd_n z]; exact v3
          · show upd (ar 12) k (nI 0) j = _
            rw [upd_n z]; exact v5
      · intro t htt
        show upd (ar 14) (tx k - 1) (nI (if c then 1 else 2)) t = _
        by_cases z : t = tx k - 1
        · subst z; rw [upd_s, va_up_self]
        · rw [upd_n z, va_up_ne _ _ z]; exact u3 t htt
  have mid : ∀ x, x = (if c then 1 else 2) → gs none (d + 1) mD_X5_closes (21, [(3, .int (nI (tx k - 1))), (0, .ref 96), (1, .int (nI k)), (2, .int (b01 c))], [.int (nI x), .int (nI (tx k - 1)), .ref 111], h) (fun u => u.1 = none ∧ FS cM h u.2 ∧ RE u.2 P cap tmo clk cl cut X sy torn tE tp an (n, ep, va_up tx k 0, bg, ba, va_up ad k (nI 0), lc, de, (if c then mkOf la (tx k - 1) mq else mq), nx, la, va_up en (tx k - 1) (if c then 1 else 2))) := by
    intro x hx
    subst hx
    have wd := w.s14 (upd (ar 14) (tx k - 1) (nI (if c then 1 else 2)))
    obtain ⟨w0, w1, w2, w3, w4, w5, w6, w7, w8, w9, w10, w11, w12, w13, w14, w15, -⟩ := w
    simp only [mcell] at w0
    refine gs_is (tx k - 1) 22 a_X5_closes_21 (by first | assumption | exact hs_same _ _ _ | exact (hs_ne _ _ (by first | assumption | decide | omega)).trans (by first | assumption | exact hs_same _ _ _ | exact (hs_ne _ _ (by first | assumption | decide | omega)).trans (by first | assumption | exact hs_same _ _ _ | exact (hs_ne _ _ (by first | assumption | decide | omega)).trans (by first | assumption | exact hs_same _ _ _ | exact (hs_ne _ _ (by first | assumption | decide | omega)).trans (by first | assumption | exact hs_same _ _ _))))) rfl (by omega) (by omega) rfl ?_
    have wid : va_up ar 14 (upd (ar 14) (tx k - 1) (nI (if c then 1 else 2))) = va_up (va_up ar 14 (upd (ar 14) (tx k - 1) (nI (if c then 1 else 2)))) 13 (ar 13) := by
      funext q
      by_cases z : q = 13
      · subst z; rw [va_up_self]; rfl
      · rw [va_up_ne (va_up ar 14 _) _ z]
    rw [wid] at wd
    refine gs_n 23 a_X5_closes_22 rfl ?_
    refine gs_if 31 26 a_X5_closes_23 rfl rfl (fun c23 => ?_) (fun c23 => ?_)
    · have c23 := (b01_0 _).mp c23
      subst c23
      refine gs_w [(0, .ref 96), (1, .int (nI k))] (by simp [ix_nd]) (by intro x hx; simp only [List.mem_cons, List.not_mem_nil, or_false] at hx; rcases hx with rfl | rfl <;> rfl) ?_
      exact last _ (ar 13) (FS.m _ (by omega)) wd hTR.2.1
    · have c23 := (b01_ne _).mp c23
      subst c23
      have hm : ev (d + 1) n_X5_marksOf [.ref 96, .int (nI (tx k - 1))] (ix_set h 111 (.inl (.int, 1100, .inl (upd (ar 14) (tx k - 1) (nI (if true then 1 else 2)))))) (fun u => u.1 = none ∧ FS cM (ix_set h 111 (.inl (.int, 1100, .inl (upd (ar 14) (tx k - 1) (nI (if true then 1 else 2)))))) u.2 ∧ ∃ g', MW u.2 (P, cap, tmo, clk, cl, cut, X.length, sy, torn, nx, la.length, tp.length, an.length) (va_up (va_up ar 14 (upd (ar 14) (tx k - 1) (nI (if true then 1 else 2)))) 13 g') ∧ ∀ j, j < 64 → g' j = m1 (mkOf la (tx k - 1) mq j)) := by
        refine ev_of q_X5_marksOf (Nat.le_of_ble_eq_true rfl) ?_
        refine gs_k (nI 0) 1 a_X5_marksOf_0 (by decide +kernel) rfl ?_
        refine gs_n 2 a_X5_marksOf_1 rfl ?_
        refine gs_w [(2, .int (nI 0)), (0, .ref 96), (1, .int (nI (tx k - 1)))] (by simp [ix_nd]) (by intro x hx; simp only [List.mem_cons, List.not_mem_nil, or_false] at hx; rcases hx with rfl | rfl | rfl <;> rfl) ?_
        exact l_marksOf (ar := va_up ar 14 (upd (ar 14) (tx k - 1) (nI (if true then 1 else 2)))) (t := tx k - 1) (by omega) (fun x hx => ⟨by have := (hla x hx).1; omega, (hla x hx).2.1⟩) hll (fun i hi => hTR.2.2.2 i hi) la.length 0 _ (ar 13) (by omega) wd (fun j hj => hTR.2.1 j hj)
      refine gs_n 27 a_X5_closes_26 rfl ?_
      refine gs_n 28 a_X5_closes_27 rfl ?_
      refine gs_cv 31 a_X5_closes_28 k_5_137 q_X5_marksOf hm rfl rfl rfl (by simp [Value.category]) (by first | assumption | exact hs_same _ _ _ | exact (hs_ne _ _ (by first | assumption | decide | omega)).trans (by first | assumption | exact hs_same _ _ _ | exact (hs_ne _ _ (by first | assumption | decide | omega)).trans (by first | assumption | exact hs_same _ _ _ | exact (hs_ne _ _ (by first | assumption | decide | omega)).trans (by first | assumption | exact hs_same _ _ _ | exact (hs_ne _ _ (by first | assumption | decide | omega)).trans (by first | assumption | exact hs_same _ _ _))))) rfl (fun v h2 hp => ?_)
      obtain ⟨e1, hF, g, w2, hg⟩ := hp
      simp only at e1
      subst e1
      refine gs_w [(0, .ref 96), (1, .int (nI k))] (by simp [ix_nd]) (by intro x hx; simp only [List.mem_cons, List.not_mem_nil, or_false] at hx; rcases hx with rfl | rfl <;> rfl) ?_
      exact last h2 g ((FS.m _ (by omega)).trans hF) w2 hg
  obtain ⟨w0, w1, w2, w3, w4, w5, w6, w7, w8, w9, w10, w11, -⟩ := id w
  simp only [mcell] at w0
  refine ev_of q_X5_closes (Nat.le_of_ble_eq_true rfl) ?_
  refine gs_n 1 a_X5_closes_0 rfl ?_
  refine gs_get 4 a_X5_closes_1 f_5_43 (by first | assumption | exact hs_same _ _ _ | exact (hs_ne _ _ (by first | assumption | decide | omega)).trans (by first | assumption | exact hs_same _ _ _ | exact (hs_ne _ _ (by first | assumption | decide | omega)).trans (by first | assumption | exact hs_same _ _ _ | exact (hs_ne _ _ (by first | assumption | decide | omega)).trans (by first | assumption | exact hs_same _ _ _ | exact (hs_ne _ _ (by first | assumption | decide | omega)).trans (by first | assumption | exact hs_same _ _ _))))) rfl rfl ?_
  refine gs_n 5 a_X5_closes_4 rfl ?_
  refine gs_ia k 6 a_X5_closes_5 (by first | assumption | exact hs_same _ _ _ | exact (hs_ne _ _ (by first | assumption | decide | omega)).trans (by first | assumption | exact hs_same _ _ _ | exact (hs_ne _ _ (by first | assumption | decide | omega)).trans (by first | assumption | exact hs_same _ _ _ | exact (hs_ne _ _ (by first | assumption | decide | omega)).trans (by first | assumption | exact hs_same _ _ _ | exact (hs_ne _ _ (by first | assumption | decide | omega)).trans (by first | assumption | exact hs_same _ _ _))))) rfl (by omega) (by omega) rfl ?_
  rw [t3]
  refine gs_n 7 a_X5_closes_6 rfl ?_
  refine gs_n 8 a_X5_closes_7 rfl ?_
  refine gs_get 11 a_X5_closes_8 f_5_55 (by first | assumption | exact hs_same _ _ _ | exact (hs_ne _ _ (by first | assumption | decide | omega)).trans (by first | assumption | exact hs_same _ _ _ | exact (hs_ne _ _ (by first | assumption | decide | omega)).trans (by first | assumption | exact hs_same _ _ _ | exact (hs_ne _ _ (by first | assumption | decide | omega)).trans (by first | assumption | exact hs_same _ _ _ | exact (hs_ne _ _ (by first | assumption | decide | omega)).trans (by first | assumption | exact hs_same _ _ _))))) rfl rfl ?_
  refine gs_n 12 a_X5_closes_11 rfl ?_
  refine gs_n 13 a_X5_closes_12 rfl ?_
  refine gs_if 20 16 a_X5_closes_13 rfl rfl (fun c13 => ?_) (fun c13 => ?_)
  · have c13 := (b01_0 _).mp c13
    refine gs_k (nI 2) 21 a_X5_closes_20 (by decide +kernel) rfl ?_
    exact mid 2 (by rw [c13]; rfl)
  · have c13 := (b01_ne _).mp c13
    refine gs_k (nI 1) 17 a_X5_closes_16 (by decide +kernel) rfl ?_
    refine gs_n 21 a_X5_closes_17 rfl ?_
    exact mid 1 (by rw [c13]; rfl)
end R2
