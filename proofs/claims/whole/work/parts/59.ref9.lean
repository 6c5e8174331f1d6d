/-! The reference: send, whole -/
section R9
variable {d : Nat} {h : ix_H} {P cap tmo clk cut sy torn : Nat} {cl : Bool} {X : List En} {tE : En} {tp an : List Nat} {T : TS} {ar : Nat → Nat → Int32}
theorem and01 (x : Int32) : x &&& nI 1 = nI 0 ∨ x &&& nI 1 = nI 1 := by
  cases hb : x.toBitVec.getLsbD 0 with
  | true => exact Or.inr ((and1 x).mpr hb)
  | false =>
    left
    apply i32_ext
    rw [Int32.toBitVec_and]
    apply BitVec.eq_of_getLsbD_eq
    intro i hi
    rw [BitVec.getLsbD_and]
    have h0 : (nI 0).toBitVec.getLsbD i = false := by rw [nI_bv, BitVec.getLsbD_ofNat]; simp
    rw [h0]
    by_cases z : i = 0
    · subst z
      rw [hb, Bool.false_and]
    · have : (nI 1).toBitVec.getLsbD i = false := by
        rw [nI_bv, BitVec.getLsbD_ofNat]
        have : Nat.testBit 1 i = false := by
          rw [show (1 : Nat) = 2 ^ 0 from rfl, Nat.testBit_two_pow]
          simp
          omega
        simp [this]
      rw [this, Bool.and_false]
theorem bit01 (m : Int32) (p : Nat) : (m >>> (nI p &&& 31)) &&& nI 1 = b01 (hasB m p) := by
  unfold hasB
  rcases and01 (m >>> (nI p &&& 31)) with z | z
  · rw [decide_eq_false (by rw [z]; decide +kernel), z]; rfl
  · rw [decide_eq_true z, z]; rfl
theorem recI_lt' {es : List En} {k E : Nat} {num : Int32} : ∀ j left o, recI es k E num j left = some o → o < j := by
  intro j
  induction j with
  | zero => intro left o h; cases h
  | succ j ih =>
    intro left o h
    unfold recI at h
    split at h
    · cases h
    · split at h
      · split at h
        · cases h; omega
        · have := ih _ _ h; omega
      · have := ih _ _ h; omega
theorem nI_nm {o : Nat} (ho : o < 2 ^ 30) : ¬ nI o = -1 := by
  intro hq
  have h1 := congrArg Int32.toInt hq
  rw [nI_toInt (by omega)] at h1
  rw [show (-1 : Int32).toInt = -1 from by decide +kernel] at h1
  omega
theorem EA_12 {ar : Nat → Nat → Int32} {f : Nat → Int32} {P : Nat} {X : List En} (w : EA P ar X) : EA P (va_up ar 12 f) X := by
  refine ⟨w.1, w.2.1, fun i hi => ?_⟩
  obtain ⟨a0, a1, a2, a3, a4, a5, a6, a7⟩ := w.2.2 i hi
  refine ⟨?_, ?_, ?_, ?_, ?_, ?_, ?_, ?_⟩
  · rw [va_up_ne _ _ (by decide)]; exact a0
  · rw [va_up_ne _ _ (by decide)]; exact a1
  · rw [va_up_ne _ _ (by decide)]; exact a2
  · rw [va_up_ne _ _ (by decide)]; exact a3
  · rw [va_up_ne _ _ (by decide)]; exact a4
  · rw [va_up_ne _ _ (by decide)]; exact a5
  · rw [va_up_ne _ _ (by decide)]; exact a6
  · intro x hx
    rw [va_up_ne _ _ (by decide)]
    exact a7 x hx
theorem refF_m2 {x e : Int32} {kw : Bool} (hk : (kw && rgs T x) = false) : refF false T x e kw = -2 := by
  unfold refF
  rw [if_neg (by simp), if_pos hk]
theorem TR_ge {ar' : Nat → Nat → Int32} (hq : ∀ q, 8 ≤ q → ar' q = ar q) (w : TR ar T) : TR ar' T := by
  obtain ⟨n, ep, tx, bg, ba, ad, lc, de, mq, nx, la, en⟩ := T
  obtain ⟨t1, t2, t3, t4⟩ := w
  refine ⟨?_, ?_, ?_, ?_⟩
  · intro k hk
    rw [hq 8 (by omega), hq 9 (by omega), hq 10 (by omega), hq 11 (by omega), hq 12 (by omega)]
    exact t1 k hk
  · intro i hi
    rw [hq 13 (by omega)]
    exact t2 i hi
  · intro t ht
    rw [hq 14 (by omega)]
    exact t3 t ht
  · intro i hi
    rw [hq 15 (by omega), hq 16 (by omega), hq 17 (by omega)]
    exact t4 i hi
theorem F_snd1 {x e p num : Int32} {part : Bool} {v : Int32} (hr : refF cl (tS cl P X) x e (isPn P p) = v) (hv : v ≠ nI 0) : F_send (P, cap, tmo, clk, cl, cut, X, sy, torn, tE, tp, an) x e p num part = (v, (P, cap, tmo, clk, cl, cut, X, sy, torn, tE, [], an)) := by
  simp only [F_send]
  rw [if_pos (by rw [hr]; exact hv), hr]
theorem F_snd2 {x e p num : Int32} {part : Bool} (hr : refF cl (tS cl P X) x e (isPn P p) = nI 0) (hv : (!decide ((told P X).2.2.1 (kn x) = 0)) ≠ part) : F_send (P, cap, tmo, clk, cl, cut, X, sy, torn, tE, tp, an) x e p num part = (-5, (P, cap, tmo, clk, cl, cut, X, sy, torn, tE, [], an)) := by
  simp only [F_send]
  rw [if_neg (fun q => q hr), if_pos hv]
theorem F_snd3 {x e p num : Int32} {part : Bool} {v : Int32} {Y : List En} (hr : refF cl (tS cl P X) x e (isPn P p) = nI 0) (hv : (!decide ((told P X).2.2.1 (kn x) = 0)) = part) (hs : sndR P cap X tp (kn x) (kn p) num part = (v, Y)) : F_send (P, cap, tmo, clk, cl, cut, X, sy, torn, tE, tp, an) x e p num part = (v, (P, cap, tmo, clk, cl, cut, Y, sy, torn, tE, [], an)) := by
  simp only [F_send]
  rw [if_neg (fun q => q hr), if_neg (fun q => q hv), hs]
theorem r_send (x e p num : Int32) (part : Bool) (hs : SI (P, cap, tmo, clk, cl, cut, X, sy, torn, tE, tp, an)) (w : RS h (P, cap, tmo, clk, cl, cut, X, sy, torn, tE, tp, an)) : ev (d + 4) n_X5_send [.ref 96, .int x, .int e, .int p, .int num, .int (b01 part)] h (fun u => u.1 = some (.int (F_send (P, cap, tmo, clk, cl, cut, X, sy, torn, tE, tp, an) x e p num part).1) ∧ FS cM h u.2 ∧ RS u.2 (F_send (P, cap, tmo, clk, cl, cut, X, sy, torn, tE, tp, an) x e p num part).2) := by
  obtain ⟨s1, s2, s3, s4, s5, s6, s7, s8, s9, hv, s11, s12, s13, s14, s15, s16, s17, s18⟩ := hs
  have w' : RE h P cap tmo clk cl cut X sy torn tE tp an (tS cl P X) := w
  obtain ⟨ar, wm, hE, hto, hTR, h18, h19⟩ := w'.un
  have main : ∀ h2, FS cM h h2 → MW h2 (P, cap, tmo, clk, cl, cut, X.length, sy, torn, (tS cl P X).2.2.2.2.2.2.2.2.2.1, (tS cl P X).2.2.2.2.2.2.2.2.2.2.1.length, 0, an.length) ar → gs none (d + 3) mD_X5_send (11, [(0, .ref 96), (1, .int x), (2, .int e), (3, .int p), (4, .int num), (5, .int (b01 part)), (6, .int (nI tp.length))], [], h2) (fun u => u.1 = some (.int (F_send (P, cap, tmo, clk, cl, cut, X, sy, torn, tE, tp, an) x e p num part).1) ∧ FS cM h u.2 ∧ RS u.2 (F_send (P, cap, tmo, clk, cl, cut, X, sy, torn, tE, tp, an) x e p num part).2) := by
    intro h2 hF w2
    have wE : RE h2 P cap tmo clk cl cut X sy torn tE [] an (tS cl P X) := RE.mk' (ar := ar) w2 hE hto hTR (fun i hi => absurd hi (Nat.not_lt_zero i)) h19
    obtain ⟨v0, v1, v2, v3, v4, v5, v6, v7, v8, v9, v10, v11, v12, v13, -⟩ := id w2
    simp only [mcell] at v0
    refine gs_n 12 a_X5_send_11 rfl ?_
    refine gs_get 15 a_X5_send_12 f_5_99 (by first | assumption | exact hs_same _ _ _ | exact (hs_ne _ _ (by first | assumption | decide | omega)).trans (by first | assumption | exact hs_same _ _ _ | exact (hs_ne _ _ (by first | assumption | decide | omega)).trans (by first | assumption | exact hs_same _ _ _ | exact (hs_ne _ _ (by first | assumption | decide | omega)).trans (by first | assumption | exact hs_same _ _ _ | exact (hs_ne _ _ (by first | assumption | decide | omega)).trans (by first | assumption | exact hs_same _ _ _))))) rfl rfl ?_
    refine gs_if 20 18 a_X5_send_15 rfl rfl (fun c15 => ?_) (fun c15 => ?_)
    · have c15 := (b01_0 _).mp c15
      subst c15
      obtain ⟨rfl, hnd⟩ := s11 rfl
      refine gs_n 21 a_X5_send_20 rfl ?_
      refine gs_if 51 24 a_X5_send_21 rfl rfl (fun c21 => ?_) (fun c21 => ?_)
      · have c21 : x < 0 := c21
        rw [lt0_iff] at c21
        refine gs_k (-2) 53 a_X5_send_51 (by decide +kernel) rfl ?_
        refine gs_iret a_X5_send_53 rfl rfl ?_
        rw [F_snd1 (refF_m2 (by unfold rgs isK; rw [decide_eq_false (by omega)]; simp)) (by decide +kernel)]
        exact ⟨rfl, hF, wE⟩
      · have c21 : ¬ x < 0 := c21
        rw [lt0_iff] at c21
        refine gs_n 25 a_X5_send_24 rfl ?_
        refine gs_k (nI 31) 27 a_X5_send_25 (by decide +kernel) rfl ?_
        refine gs_ic 51 30 a_X5_send_27 rfl rfl (fun c27 => ?_) (fun c27 => ?_)
        · have c27 : nI 31 < x := c27
          rw [lt_lit (by omega)] at c27
          refine gs_k (-2) 53 a_X5_send_51 (by decide +kernel) rfl ?_
          refine gs_iret a_X5_send_53 rfl rfl ?_
          rw [F_snd1 (refF_m2 (by unfold rgs isK; rw [decide_eq_false (by omega)]; simp)) (by decide +kernel)]
          exact ⟨rfl, hF, wE⟩
        · have c27 : ¬ nI 31 < x := c27
          rw [lt_lit (by omega)] at c27
          have hisK : isK x = true := by unfold isK; exact decide_eq_true (by omega)
          obtain ⟨hk, hx⟩ := isK_kn hisK
          generalize hkk : kn x = k at *
          subst hx
          rw [tS_f] at hTR
          obtain ⟨t1, t2, t3, t4, t5⟩ := hTR.k hk
          have hTb := (T_b hv false k hk).2.1
          have hTe := (T_b hv false k hk).1
          rw [tS_f] at hTb hTe
          refine gs_n 31 a_X5_send_30 rfl ?_
          refine gs_get 34 a_X5_send_31 f_5_36 (by first | assumption | exact hs_same _ _ _ | exact (hs_ne _ _ (by first | assumption | decide | omega)).trans (by first | assumption | exact hs_same _ _ _ | exact (hs_ne _ _ (by first | assumption | decide | omega)).trans (by first | assumption | exact hs_same _ _ _ | exact (hs_ne _ _ (by first | assumption | decide | omega)).trans (by first | assumption | exact hs_same _ _ _ | exact (hs_ne _ _ (by first | assumption | decide | omega)).trans (by first | assumption | exact hs_same _ _ _))))) rfl rfl ?_
          refine gs_n 35 a_X5_send_34 rfl ?_
          refine gs_za k 36 a_X5_send_35 (by first | assumption | exact hs_same _ _ _ | exact (hs_ne _ _ (by first | assumption | decide | omega)).trans (by first | assumption | exact hs_same _ _ _ | exact (hs_ne _ _ (by first | assumption | decide | omega)).trans (by first | assumption | exact hs_same _ _ _ | exact (hs_ne _ _ (by first | assumption | decide | omega)).trans (by first | assumption | exact hs_same _ _ _ | exact (hs_ne _ _ (by first | assumption | decide | omega)).trans (by first | assumption | exact hs_same _ _ _))))) rfl (by omega) (by omega) rfl ?_
          rw [t1]
          refine gs_if 51 39 a_X5_send_36 rfl rfl (fun c36 => ?_) (fun c36 => ?_)
          · have c36 := (b01_0 _).mp c36
            refine gs_k (-2) 53 a_X5_send_51 (by decide +kernel) rfl ?_
            refine gs_iret a_X5_send_53 rfl rfl ?_
            rw [F_snd1 (refF_m2 (by unfold rgs; rw [tS_f, hkk, c36]; simp)) (by decide +kernel)]
            exact ⟨rfl, hF, wE⟩
          · have c36 := (b01_ne _).mp c36
            have hep : (told P X).2.1 k ≠ 0 := by simpa using c36
            have hrg : rgs (tS false P X) (nI k) = true := by unfold rgs; rw [hisK, tS_f, hkk, c36]; rfl
            have h9 := t2 hep
            refine gs_n 40 a_X5_send_39 rfl ?_
            refine gs_if 51 43 a_X5_send_40 rfl rfl (fun c40 => ?_) (fun c40 => ?_)
            · have c40 : p < 0 := c40
              rw [lt0_iff] at c40
              refine gs_k (-2) 53 a_X5_send_51 (by decide +kernel) rfl ?_
              refine gs_iret a_X5_send_53 rfl rfl ?_
              rw [F_snd1 (refF_m2 (by unfold isPn; rw [decide_eq_false (by omega)]; rfl)) (by decide +kernel)]
              exact ⟨rfl, hF, wE⟩
            · have c40 : ¬ p < 0 := c40
              rw [lt0_iff] at c40
              refine gs_n 44 a_X5_send_43 rfl ?_
              refine gs_n 45 a_X5_send_44 rfl ?_
              refine gs_get 48 a_X5_send_45 f_5_87 (by first | assumption | exact hs_same _ _ _ | exact (hs_ne _ _ (by first | assumption | decide | omega)).trans (by first | assumption | exact hs_same _ _ _ | exact (hs_ne _ _ (by first | assumption | decide | omega)).trans (by first | assumption | exact hs_same _ _ _ | exact (hs_ne _ _ (by first | assumption | decide | omega)).trans (by first | assumption | exact hs_same _ _ _ | exact (hs_ne _ _ (by first | assumption | decide | omega)).trans (by first | assumption | exact hs_same _ _ _))))) rfl rfl ?_
              refine gs_ic 54 51 a_X5_send_48 rfl rfl (fun c48 => ?_) (fun c48 => ?_)
              · have c48 : p < nI P := c48
                rw [lt_lit' (by omega)] at c48
                have hisP : isPn P p = true := by unfold isPn; exact decide_eq_true (by omega)
                obtain ⟨hp, hpx⟩ := isPn_kn hisP
                refine gs_n 55 a_X5_send_54 rfl ?_
                refine gs_get 58 a_X5_send_55 f_5_40 (by first | assumption | exact hs_same _ _ _ | exact (hs_ne _ _ (by first | assumption | decide | omega)).trans (by first | assumption | exact hs_same _ _ _ | exact (hs_ne _ _ (by first | assumption | decide | omega)).trans (by first | assumption | exact hs_same _ _ _ | exact (hs_ne _ _ (by first | assumption | decide | omega)).trans (by first | assumption | exact hs_same _ _ _ | exact (hs_ne _ _ (by first | assumption | decide | omega)).trans (by first | assumption | exact hs_same _ _ _))))) rfl rfl ?_
                refine gs_n 59 a_X5_send_58 rfl ?_
                refine gs_ia k 60 a_X5_send_59 (by first | assumption | exact hs_same _ _ _ | exact (hs_ne _ _ (by first | assumption | decide | omega)).trans (by first | assumption | exact hs_same _ _ _ | exact (hs_ne _ _ (by first | assumption | decide | omega)).trans (by first | assumption | exact hs_same _ _ _ | exact (hs_ne _ _ (by first | assumption | decide | omega)).trans (by first | assumption | exact hs_same _ _ _ | exact (hs_ne _ _ (by first | assumption | decide | omega)).trans (by first | assumption | exact hs_same _ _ _))))) rfl (by omega) (by omega) rfl ?_
                rw [h9]
                refine gs_n 61 a_X5_send_60 rfl ?_
                refine gs_ic 67 64 a_X5_send_61 rfl rfl (fun c61 => ?_) (fun c61 => ?_)
                · have c61 : nI ((told P X).2.1 k - 1) = e := c61
                  subst c61
                  have hrf : refF false (tS false P X) (nI k) (nI ((told P X).2.1 k - 1)) (isPn P p) = nI 0 := by
                    unfold refF
                    rw [if_neg (by simp), hrg, hisP, if_neg (by simp), tS_f, hkk, m1_p hep, if_pos rfl]
                  have f84 : ∀ z : Bool, z = decide ((told P X).2.2.1 k = 0) → gs none (d + 3) mD_X5_send (84, [(0, .ref 96), (1, .int (nI k)), (2, .int (nI ((told P X).2.1 k - 1))), (3, .int p), (4, .int num), (5, .int (b01 part)), (6, .int (nI tp.length))], [.int (b01 z), .int (b01 part)], h2) (fun u => u.1 = some (.int (F_send (P, cap, tmo, clk, false, cut, X, sy, 0, tE, tp, an) (nI k) (nI ((told P X).2.1 k - 1)) p num part).1) ∧ FS cM h u.2 ∧ RS u.2 (F_send (P, cap, tmo, clk, false, cut, X, sy, 0, tE, tp, an) (nI k) (nI ((told P X).2.1 k - 1)) p num part).2) := by
                    intro z hz
                    refine gs_ic 90 87 a_X5_send_84 rfl rfl (fun c84 => ?_) (fun c84 => ?_)
                    · have c84 : ¬ b01 part = b01 z := c84
                      have hpt : (!decide ((told P X).2.2.1 k = 0)) = part := by
                        rw [← hz]
                        cases z <;> cases part <;> first | rfl | exact absurd rfl c84
                      have F3 : ∀ {v : Int32} {Y : List En}, sndR P cap X tp k (kn p) num part = (v, Y) → F_send (P, cap, tmo, clk, false, cut, X, sy, 0, tE, tp, an) (nI k) (nI ((told P X).2.1 k - 1)) p num part = (v, (P, cap, tmo, clk, false, cut, Y, sy, 0, tE, [], an)) := fun hq => F_snd3 hrf (by rw [hkk]; exact hpt) (by rw [hkk]; exact hq)
                      clear hrf
                      generalize hkp : kn p = pp at *
                      subst hpx
                      refine gs_n 91 a_X5_send_90 rfl ?_
                      refine gs_n 92 a_X5_send_91 rfl ?_
                      refine gs_n 93 a_X5_send_92 rfl ?_
                      refine gs_n 95 a_X5_send_93 rfl ?_
                      refine gs_cv 98 a_X5_send_95 k_5_171 q_X5_again (m_again (num := num) hk (show pp ≤ 8 by omega) hE h9 (by omega) w2) rfl rfl rfl (by simp [Value.category]) (by first | assumption | exact hs_same _ _ _ | exact (hs_ne _ _ (by first | assumption | decide | omega)).trans (by first | assumption | exact hs_same _ _ _ | exact (hs_ne _ _ (by first | assumption | decide | omega)).trans (by first | assumption | exact hs_same _ _ _ | exact (hs_ne _ _ (by first | assumption | decide | omega)).trans (by first | assumption | exact hs_same _ _ _ | exact (hs_ne _ _ (by first | assumption | decide | omega)).trans (by first | assumption | exact hs_same _ _ _))))) rfl (fun v h1 hp => ?_)
                      cases hp
                      cases hrec : recI (fl pp X) k ((told P X).2.1 k - 1) num (fl pp X).length 5 with
                      | some o =>
                        have hlen := len42 s2 s4 hv
                        have hfl := fl_le pp X
                        have hol := recI_lt' _ _ _ hrec
                        simp only [oI]
                        refine gs_n 100 a_X5_send_98 rfl ?_
                        refine gs_n 102 a_X5_send_100 rfl ?_
                        refine gs_k (-1) 103 a_X5_send_102 (by decide +kernel) rfl ?_
                        refine gs_ic 109 106 a_X5_send_103 rfl rfl (fun c103 => ?_) (fun c103 => ?_)
                        · have c103 : nI o = -1 := c103
                          exact absurd c103 (nI_nm (by omega))
                        · refine gs_n 108 a_X5_send_106 rfl ?_
                          refine gs_iret a_X5_send_108 rfl rfl ?_
                          rw [F3 (show sndR P cap X tp k pp num part = (nI o, X) by simp only [sndR, hrec])]
                          exact ⟨rfl, hF, wE⟩
                      | none =>
                        simp only [oI]
                        refine gs_n 100 a_X5_send_98 rfl ?_
                        refine gs_n 102 a_X5_send_100 rfl ?_
                        refine gs_k (-1) 103 a_X5_send_102 (by decide +kernel) rfl ?_
                        refine gs_ic 109 106 a_X5_send_103 rfl rfl (fun c103 => ?_) (fun c103 => ?_)
                        · refine gs_n 111 a_X5_send_109 rfl ?_
                          refine gs_n 112 a_X5_send_111 rfl ?_
                          refine gs_n 113 a_X5_send_112 rfl ?_
                          refine gs_n 114 a_X5_send_113 rfl ?_
                          refine gs_cv 117 a_X5_send_114 k_5_175 q_X5_nextOf (m_nextOf hk (show pp ≤ 8 by omega) hE h9 (by omega) w2) rfl rfl rfl (by simp [Value.category]) (by first | assumption | exact hs_same _ _ _ | exact (hs_ne _ _ (by first | assumption | decide | omega)).trans (by first | assumption | exact hs_same _ _ _ | exact (hs_ne _ _ (by first | assumption | decide | omega)).trans (by first | assumption | exact hs_same _ _ _ | exact (hs_ne _ _ (by first | assumption | decide | omega)).trans (by first | assumption | exact hs_same _ _ _ | exact (hs_ne _ _ (by first | assumption | decide | omega)).trans (by first | assumption | exact hs_same _ _ _))))) rfl (fun v h1 hp => ?_)
                          cases hp
                          refine gs_ic 123 120 a_X5_send_117 rfl rfl (fun c117 => ?_) (fun c117 => ?_)
                          · have c117 : num = nI (nxt (fl pp X) k ((told P X).2.1 k - 1)) := c117
                            have hg0 := pv_all hv
                            have hlen := len42 s2 s4 hv
                            have hnx := nxt_le s18 hp (k := k) (E := (told P X).2.1 k - 1)
                            obtain ⟨n, ep, tx, bg, ba, ad, lc, de, mq, nx, la, en, hT⟩ := told_ex P X
                            have hkn : kn num = nxt (fl pp X) k ((told P X).2.1 k - 1) := by rw [c117]; unfold kn; rw [nI_toInt (by omega)]; omega
                            have room : ∀ (ab : Bool), ab = (part && !hasB ((told P X).2.2.2.2.2.1 k) pp) → gs none (d + 3) mD_X5_send (146, [(0, .ref 96), (1, .int (nI k)), (2, .int (nI ((told P X).2.1 k - 1))), (3, .int (nI pp)), (4, .int num), (5, .int (b01 part)), (6, .int (nI tp.length))], [.int (b01 ab)], h2) (fun u => u.1 = some (.int (F_send (P, cap, tmo, clk, false, cut, X, sy, 0, tE, tp, an) (nI k) (nI ((told P X).2.1 k - 1)) (nI pp) num part).1) ∧ FS cM h u.2 ∧ RS u.2 (F_send (P, cap, tmo, clk, false, cut, X, sy, 0, tE, tp, an) (nI k) (nI ((told P X).2.1 k - 1)) (nI pp) num part).2) := by
                              intro ab hab
                              have hR : sndR P cap X tp k pp num part = (if (decide (bytesP pp X + 14 + tp.length + 14 * (cntA (told P X) pp + (if ab = true then 1 else 0)) ≤ cap) && (!ab || bkF (told P X) 0)) = false then (-8, X) else (nI (fl pp X).length, sX1 P X k pp part ++ [(pp, (if part then 1 else 0), k, (told P X).2.1 k - 1, kn num, tp.length, (if part then (told P X).2.2.1 k else 0), tp)])) := by
                                simp only [sndR, hrec]
                                rw [if_neg (fun q => q c117), ← hab]
                                unfold sX1
                                rw [← hab]
                              rw [hT] at hg0
                              have hX := hg0.1.2.2.2.1
                              have hbs := bytesP_sum hp hX
                              have hbc := Nat.le_trans (Nat.le_add_right _ _) (hg0.2.2.2.2.2 pp hp)
                              have hca := cnt_le (fun k => hasB (ad k) pp) 32
                              have hcA : cntA (told P X) pp = cnt (fun k => hasB (ad k) pp) 32 := by rw [hT]; rfl
                              have wr : decide (bytesP pp X + 14 + tp.length + 14 * (cntA (told P X) pp + (if ab = true then 1 else 0)) ≤ cap) = true → (!ab || bkF (told P X) 0) = true → gs none (d + 3) mD_X5_send (212, [(8, .int (b01 ab)), (0, .ref 96), (1, .int (nI k)), (2, .int (nI ((told P X).2.1 k - 1))), (3, .int (nI pp)), (4, .int num), (5, .int (b01 part)), (6, .int (nI tp.length))], [], h2) (fun u => u.1 = some (.int (F_send (P, cap, tmo, clk, false, cut, X, sy, 0, tE, tp, an) (nI k) (nI ((told P X).2.1 k - 1)) (nI pp) num part).1) ∧ FS cM h u.2 ∧ RS u.2 (F_send (P, cap, tmo, clk, false, cut, X, sy, 0, tE, tp, an) (nI k) (nI ((told P X).2.1 k - 1)) (nI pp) num part).2) := by
                                intro hr1 hr2
                                rw [F3 (hR.trans (if_neg (by rw [hr1, hr2]; simp)))]
                                clear F3 hR
                                have hr1' : bytesP pp X + 14 + tp.length + 14 * (cntA (told P X) pp + (if ab = true then 1 else 0)) ≤ cap := of_decide_eq_true hr1
                                unfold noDec at hnd
                                rw [hcA, hab] at hr1'
                                have hgr := hg0.2.2.2.2.1
                                have hnn := hg0.1.1
                                have hnxb := hg0.1.2.1
                                have htxb := (hg0.1.2.2.2.2.1 k hk).2.1
                                have hepb := (hg0.1.2.2.2.2.1 k hk).1
                                rw [tS_f] at w2
                                rw [hT] at hr1' hr2 hab hnd hpt hkn hnx c117 hTR t3 t5 hTb hTe hep w2 ⊢
                                simp only at hr1' hab hnd hpt hkn hnx c117 t3 t5 hTb hTe hep w2 ⊢
                                obtain ⟨n1, ad1, v1', tt1, f1, b1, r1, l1, l2⟩ := snd_ok (tp := tp) s2 hv hT hnd hk hp (fun q => by rw [← hpt] at q; simpa using q) hr1' (fun q => by rw [← hab] at q; rw [q] at hr2; simpa using hr2)
                                have hbX1 : bytesP pp (sX1 P X k pp part) = bytesP pp X := by unfold bytesP; rw [f1]
                                have hlen1 := len42 s2 s4 v1'
                                have hrec2 := pv_rec (k := k) (num := kn num) (o := if part then tx k else 0) (pl := tp) part s2 v1' tt1 hk hp (by rw [hkn]; omega) s14 s15 rfl (fun q => ⟨by rw [← hpt] at q; simpa using q, hnd k hk, b1 q⟩) (by rw [hbX1]; omega)
                                have e9 : num = nI (kn num) := by rw [hkn]; exact c117
                                have hknb : kn num < 2 ^ 31 := by rw [hkn]; omega
                                clear hrec c117 hkn hnx
                                generalize hmm : kn num = mm at *
                                subst e9
                                have fin : ∀ (h3 : ix_H) (arr : Nat → Nat → Int32), FS cM h h3 → MW h3 (P, cap, tmo, clk, false, cut, (sX1 P X k pp part).length, sy, 0, nx, la.length, 0, an.length) arr → EA P arr (sX1 P X k pp part) → TR arr (n1, ep, tx, bg, ba, ad1, lc, de, mq, nx, la, en) → (∀ i, i < tp.length → arr 18 i = sg (tp.getD i 0)) → (∀ i, i < an.length → arr 19 i = sg (an.getD i 0)) → gs none (d + 3) mD_X5_send (244, [(0, .ref 96), (1, .int (nI k)), (2, .int (nI (ep k - 1))), (3, .int (nI pp)), (4, .int (nI mm)), (5, .int (b01 part)), (6, .int (nI tp.length))], [], h3) (fun u => u.1 = some (.int (nI (fl pp X).length)) ∧ FS cM h u.2 ∧ RS u.2 (P, cap, tmo, clk, false, cut, sX1 P X k pp part ++ [(pp, (if part then 1 else 0), k, ep k - 1, mm, tp.length, (if part then tx k else 0), tp)], sy, 0, tE, [], an)) := by
                                  intro h3 arr hF3 w3 hE3 hTR3 h18' h19'
                                  refine gs_post (l_rec (d := d + 2) (X := sX1 P X k pp part) (k := k) (p := pp) (E := ep k - 1) (nm := mm) (kd := if part then 1 else 0) (txk := tx k) (part := part) (tp := tp) hk hE3 (by omega) rfl (okE_part s2 hp (by split <;> omega) hk (by omega) hknb s14 (by split <;> omega) s15).1 (fun _ => (hTR3.k hk).2.2.1) s14 h18' w3) ?_
                                  rintro u ⟨e1, hF4, ar', q1, q2, q3⟩
                                  rw [f1] at e1
                                  refine ⟨e1, hF3.trans hF4, ?_⟩
                                  show RE u.2 P cap tmo clk false cut (sX1 P X k pp part ++ [(pp, (if part then 1 else 0), k, ep k - 1, mm, tp.length, (if part then tx k else 0), tp)]) sy 0 tE [] an (told P (sX1 P X k pp part ++ [(pp, (if part then 1 else 0), k, ep k - 1, mm, tp.length, (if part then tx k else 0), tp)]))
                                  rw [hrec2.2]
                                  refine ⟨ar', ?_, q2, fun z => absurd z (by omega), TR_ge q3 hTR3, fun i hi => absurd hi (Nat.not_lt_zero i), ?_⟩
                                  · rw [List.length_append]; exact q1
                                  · intro i hi
                                    rw [q3 19 (by omega)]
                                    exact h19' i hi
                                refine gs_n 214 a_X5_send_212 rfl ?_
                                refine gs_if 244 217 a_X5_send_214 rfl rfl (fun c214 => ?_) (fun c214 => ?_)
                                · have c214 := (b01_0 _).mp c214
                                  have hX1 : sX1 P X k pp part = X := by unfold sX1; rw [hT]; simp only; rw [← hab, c214]; rfl
                                  have hTX : (n1, ep, tx, bg, ba, ad1, lc, de, mq, nx, la, en) = ((n, ep, tx, bg, ba, ad, lc, de, mq, nx, la, en) : TS) := by rw [← tt1, hX1, hT]
                                  refine gs_w [(0, .ref 96), (1, .int (nI k)), (2, .int (nI (ep k - 1))), (3, .int (nI pp)), (4, .int (nI mm)), (5, .int (b01 part)), (6, .int (nI tp.length))] (by simp [ix_nd]) (by intro x hx; simp only [List.mem_cons, List.not_mem_nil, or_false] at hx; rcases hx with rfl | rfl | rfl | rfl | rfl | rfl | rfl <;> rfl) ?_
                                  refine fin h2 ar hF ?_ ?_ ?_ h18 h19
                                  · rw [hX1]; exact w2
                                  · rw [hX1]; exact hE
                                  · rw [hTX]; exact hTR
                                · have c214 := (b01_ne _).mp c214
                                  have hX1 : sX1 P X k pp part = X ++ [(P, 2, k, ep k - 1, pp, 0, 0, [])] := by unfold sX1; rw [hT]; simp only; rw [← hab, c214]; rfl
                                  have hTX : (n1, ep, tx, bg, ba, ad1, lc, de, mq, nx, la, en) = ((n + 1, ep, tx, bg, ba, va_up ad k (ad k ||| (nI 1 <<< (nI pp &&& 31))), lc, de, mq, nx, la, en) : TS) := by rw [← tt1, hX1, told_snoc, if_pos rfl, hT]; rfl
                                  refine gs_n 218 a_X5_send_217 rfl ?_
                                  refine gs_n 219 a_X5_send_218 rfl ?_
                                  refine gs_get 222 a_X5_send_219 f_5_87 (by first | assumption | exact hs_same _ _ _ | exact (hs_ne _ _ (by first | assumption | decide | omega)).trans (by first | assumption | exact hs_same _ _ _ | exact (hs_ne _ _ (by first | assumption | decide | omega)).trans (by first | assumption | exact hs_same _ _ _ | exact (hs_ne _ _ (by first | assumption | decide | omega)).trans (by first | assumption | exact hs_same _ _ _ | exact (hs_ne _ _ (by first | assumption | decide | omega)).trans (by first | assumption | exact hs_same _ _ _))))) rfl rfl ?_
                                  refine gs_k (nI 2) 223 a_X5_send_222 (by decide +kernel) rfl ?_
                                  refine gs_n 224 a_X5_send_223 rfl ?_
                                  refine gs_n 225 a_X5_send_224 rfl ?_
                                  refine gs_n 226 a_X5_send_225 rfl ?_
                                  refine gs_k (nI 0) 227 a_X5_send_226 (by decide +kernel) rfl ?_
                                  refine gs_cv 230 a_X5_send_227 k_5_129 q_X5_add (m_add (nI P) (nI 2) (nI k) (nI (ep k - 1)) (nI pp) (nI 0) (by omega) w2) rfl rfl rfl (by simp [Value.category]) (by first | assumption | exact hs_same _ _ _ | exact (hs_ne _ _ (by first | assumption | decide | omega)).trans (by first | assumption | exact hs_same _ _ _ | exact (hs_ne _ _ (by first | assumption | decide | omega)).trans (by first | assumption | exact hs_same _ _ _ | exact (hs_ne _ _ (by first | assumption | decide | omega)).trans (by first | assumption | exact hs_same _ _ _ | exact (hs_ne _ _ (by first | assumption | decide | omega)).trans (by first | assumption | exact hs_same _ _ _))))) rfl (fun v h3 hp => ?_)
                                  obtain ⟨e1, hF3, w3⟩ := hp
                                  simp only at e1
                                  subst e1
                                  have w4 := w3.s12 (upd (addA ar X.length (nI P) (nI 2) (nI k) (nI (ep k - 1)) (nI pp) (nI 0) 12) k (ad k ||| (nI 1 <<< (nI pp &&& 31))))
                                  obtain ⟨u0, u1, u2, u3, u4, u5, u6, u7, u8, u9, u10, u11, u12, u13, -⟩ := id w3
                                  simp only [mcell] at u0
                                  refine gs_n 232 a_X5_send_230 rfl ?_
                                  refine gs_n 233 a_X5_send_232 rfl ?_
                                  refine gs_get 236 a_X5_send_233 f_5_49 (by first | assumption | exact hs_same _ _ _ | exact (hs_ne _ _ (by first | assumption | decide | omega)).trans (by first | assumption | exact hs_same _ _ _ | exact (hs_ne _ _ (by first | assumption | decide | omega)).trans (by first | assumption | exact hs_same _ _ _ | exact (hs_ne _ _ (by first | assumption | decide | omega)).trans (by first | assumption | exact hs_same _ _ _ | exact (hs_ne _ _ (by first | assumption | decide | omega)).trans (by first | assumption | exact hs_same _ _ _))))) rfl rfl ?_
                                  refine gs_n 237 a_X5_send_236 rfl ?_
                                  refine gs_n 238 a_X5_send_237 rfl ?_
                                  refine gs_ia k 239 a_X5_send_238 (by first | assumption | exact hs_same _ _ _ | exact (hs_ne _ _ (by first | assumption | decide | omega)).trans (by first | assumption | exact hs_same _ _ _ | exact (hs_ne _ _ (by first | assumption | decide | omega)).trans (by first | assumption | exact hs_same _ _ _ | exact (hs_ne _ _ (by first | assumption | decide | omega)).trans (by first | assumption | exact hs_same _ _ _ | exact (hs_ne _ _ (by first | assumption | decide | omega)).trans (by first | assumption | exact hs_same _ _ _))))) rfl (by omega) (by omega) rfl ?_
                                  rw [show addA ar X.length (nI P) (nI 2) (nI k) (nI (ep k - 1)) (nI pp) (nI 0) 12 k = ad k by rw [addA_ge (by omega)]; exact t5]
                                  refine gs_k (nI 1) 240 a_X5_send_239 (by decide +kernel) rfl ?_
                                  refine gs_n 241 a_X5_send_240 rfl ?_
                                  refine gs_n 242 a_X5_send_241 rfl ?_
                                  refine gs_n 243 a_X5_send_242 rfl ?_
                                  refine gs_is k 244 a_X5_send_243 (by first | assumption | exact hs_same _ _ _ | exact (hs_ne _ _ (by first | assumption | decide | omega)).trans (by first | assumption | exact hs_same _ _ _ | exact (hs_ne _ _ (by first | assumption | decide | omega)).trans (by first | assumption | exact hs_same _ _ _ | exact (hs_ne _ _ (by first | assumption | decide | omega)).trans (by first | assumption | exact hs_same _ _ _ | exact (hs_ne _ _ (by first | assumption | decide | omega)).trans (by first | assumption | exact hs_same _ _ _))))) rfl (by omega) (by omega) rfl ?_
                                  refine gs_w [(0, .ref 96), (1, .int (nI k)), (2, .int (nI (ep k - 1))), (3, .int (nI pp)), (4, .int (nI mm)), (5, .int (b01 part)), (6, .int (nI tp.length))] (by simp [ix_nd]) (by intro x hx; simp only [List.mem_cons, List.not_mem_nil, or_false] at hx; rcases hx with rfl | rfl | rfl | rfl | rfl | rfl | rfl <;> rfl) ?_
                                  have hEA := EA_add (k := k) (E := ep k - 1) (a := pp) (b := 0) (f := P) (K := 2) hE (by omega) (okE_book s2 (by omega) hk (by omega) (by omega) (by omega) (by omega)).1
                                  refine fin _ (va_up (addA ar X.length (nI P) (nI 2) (nI k) (nI (ep k - 1)) (nI pp) (nI 0)) 12 (upd (addA ar X.length (nI P) (nI 2) (nI k) (nI (ep k - 1)) (nI pp) (nI 0) 12) k (ad k ||| (nI 1 <<< (nI pp &&& 31))))) (hF.trans (hF3.trans (FS.m _ (by omega)))) ?_ ?_ ?_ ?_ ?_
                                  · rw [hX1, List.length_append]; exact w4
                                  · rw [hX1]
                                    exact EA_12 hEA
                                  · rw [hTX]
                                    have hq := TR_add (j := X.length) (f := nI P) (K := nI 2) (k := nI k) (E := nI (ep k - 1)) (a := nI pp) (b := nI 0) hTR
                                    obtain ⟨q1, q2, q3, q4⟩ := hq
                                    refine ⟨?_, ?_, ?_, ?_⟩
                                    · intro i hi
                                      obtain ⟨x1, x2, x3, x4, x5⟩ := q1 i hi
                                      rw [va_up_ne _ _ (by decide), va_up_ne _ _ (by decide), va_up_ne _ _ (by decide), va_up_ne _ _ (by decide), va_up_self]
                                      refine ⟨x1, x2, x3, x4, ?_⟩
                                      by_cases z : i = k
                                      · subst z; rw [upd_s, va_up_self]
                                      · rw [upd_n z, va_up_ne _ _ z]; exact x5
                                    · intro i hi
                                      rw [va_up_ne _ _ (by decide)]
                                      exact q2 i hi
                                    · intro i hi
                                      rw [va_up_ne _ _ (by decide)]
                                      exact q3 i hi
                                    · intro i hi
                                      rw [va_up_ne _ _ (by decide), va_up_ne _ _ (by decide), va_up_ne _ _ (by decide)]
                                      exact q4 i hi
                                  · intro i hi
                                    rw [va_up_ne _ _ (by decide), addA_ge (by omega)]
                                    exact h18 i hi
                                  · intro i hi
                                    rw [va_up_ne _ _ (by decide), addA_ge (by omega)]
                                    exact h19 i hi
                              have k177 : ∀ t, t = (if ab = true then 1 else 0) → gs none (d + 3) mD_X5_send (177, [(8, .int (b01 ab)), (0, .ref 96), (1, .int (nI k)), (2, .int (nI ((told P X).2.1 k - 1))), (3, .int (nI pp)), (4, .int num), (5, .int (b01 part)), (6, .int (nI tp.length))], [.int (nI t), .int (nI (cntA (told P X) pp)), .int (nI 14), .int (nI (bytesP pp X) + nI 14 + nI tp.length)], h2) (fun u => u.1 = some (.int (F_send (P, cap, tmo, clk, false, cut, X, sy, 0, tE, tp, an) (nI k) (nI ((told P X).2.1 k - 1)) (nI pp) num part).1) ∧ FS cM h u.2 ∧ RS u.2 (F_send (P, cap, tmo, clk, false, cut, X, sy, 0, tE, tp, an) (nI k) (nI ((told P X).2.1 k - 1)) (nI pp) num part).2) := by
                                intro t ht
                                have ht1 : t ≤ 1 := by rw [ht]; split <;> omega
                                rw [← ht] at wr hR
                                refine gs_n 178 a_X5_send_177 rfl ?_
                                refine gs_n 179 a_X5_send_178 rfl ?_
                                refine gs_n 180 a_X5_send_179 rfl ?_
                                refine gs_n 182 a_X5_send_180 rfl ?_
                                refine gs_n 184 a_X5_send_182 rfl ?_
                                refine gs_n 185 a_X5_send_184 rfl ?_
                                refine gs_get 188 a_X5_send_185 f_5_90 (by first | assumption | exact hs_same _ _ _ | exact (hs_ne _ _ (by first | assumption | decide | omega)).trans (by first | assumption | exact hs_same _ _ _ | exact (hs_ne _ _ (by first | assumption | decide | omega)).trans (by first | assumption | exact hs_same _ _ _ | exact (hs_ne _ _ (by first | assumption | decide | omega)).trans (by first | assumption | exact hs_same _ _ _ | exact (hs_ne _ _ (by first | assumption | decide | omega)).trans (by first | assumption | exact hs_same _ _ _))))) rfl rfl ?_
                                rw [nI_add, nI_add, nI_add, pk_mul, nI_add]
                                refine gs_ic 209 191 a_X5_send_188 rfl rfl (fun c188 => ?_) (fun c188 => ?_)
                                · have c188 : nI cap < nI (bytesP pp X + 14 + tp.length + 14 * (cntA (told P X) pp + t)) := c188
                                  rw [nI_ltI (by omega) (by omega)] at c188
                                  refine gs_k (-8) 211 a_X5_send_209 (by decide +kernel) rfl ?_
                                  refine gs_iret a_X5_send_211 rfl rfl ?_
                                  rw [F3 (hR.trans (if_pos (by rw [decide_eq_false (by omega)]; rfl)))]
                                  exact ⟨rfl, hF, wE⟩
                                · have c188 : ¬ nI cap < nI (bytesP pp X + 14 + tp.length + 14 * (cntA (told P X) pp + t)) := c188
                                  rw [nI_ltI (by omega) (by omega)] at c188
                                  have c188' : decide (bytesP pp X + 14 + tp.length + 14 * (cntA (told P X) pp + t) ≤ cap) = true := decide_eq_true (by omega)
                                  refine gs_n 193 a_X5_send_191 rfl ?_
                                  refine gs_if 212 196 a_X5_send_193 rfl rfl (fun c193 => ?_) (fun c193 => ?_)
                                  · have c193 := (b01_0 _).mp c193
                                    refine gs_w [(8, .int (b01 ab)), (0, .ref 96), (1, .int (nI k)), (2, .int (nI ((told P X).2.1 k - 1))), (3, .int (nI pp)), (4, .int num), (5, .int (b01 part)), (6, .int (nI tp.length))] (by simp [ix_nd]) (by intro x hx; simp only [List.mem_cons, List.not_mem_nil, or_false] at hx; rcases hx with rfl | rfl | rfl | rfl | rfl | rfl | rfl | rfl <;> rfl) ?_
                                    exact wr c188' (by rw [c193]; rfl)
                                  · have c193 := (b01_ne _).mp c193
                                    refine gs_n 197 a_X5_send_196 rfl ?_
                                    refine gs_k (nI 16) 199 a_X5_send_197 (by decide +kernel) rfl ?_
                                    refine gs_n 200 a_X5_send_199 rfl ?_
                                    refine gs_cv 203 a_X5_send_200 k_5_147 q_X5_opened (r_opened (fun k hk => (T_b hv false k hk).2.1) wE) rfl rfl rfl (by simp [Value.category]) (by first | assumption | exact hs_same _ _ _ | exact (hs_ne _ _ (by first | assumption | decide | omega)).trans (by first | assumption | exact hs_same _ _ _ | exact (hs_ne _ _ (by first | assumption | decide | omega)).trans (by first | assumption | exact hs_same _ _ _ | exact (hs_ne _ _ (by first | assumption | decide | omega)).trans (by first | assumption | exact hs_same _ _ _ | exact (hs_ne _ _ (by first | assumption | decide | omega)).trans (by first | assumption | exact hs_same _ _ _))))) rfl (fun v h1 hp => ?_)
                                    cases hp
                                    refine gs_cv 206 a_X5_send_203 k_5_151 q_X5_bookHas (r_bookHas 16 (cntO (told P X)) (by omega) (by have := cntO_le (told P X); omega) s2 wE) rfl rfl rfl (by simp [Value.category]) (by first | assumption | exact hs_same _ _ _ | exact (hs_ne _ _ (by first | assumption | decide | omega)).trans (by first | assumption | exact hs_same _ _ _ | exact (hs_ne _ _ (by first | assumption | decide | omega)).trans (by first | assumption | exact hs_same _ _ _ | exact (hs_ne _ _ (by first | assumption | decide | omega)).trans (by first | assumption | exact hs_same _ _ _ | exact (hs_ne _ _ (by first | assumption | decide | omega)).trans (by first | assumption | exact hs_same _ _ _))))) rfl (fun v h1 hp => ?_)
                                    cases hp
                                    rw [bk_eq0 (told_n hv)]
                                    refine gs_if 212 209 a_X5_send_206 rfl rfl (fun c206 => ?_) (fun c206 => ?_)
                                    · have c206 := (b01_ne _).mp c206
                                      refine gs_w [(8, .int (b01 ab)), (0, .ref 96), (1, .int (nI k)), (2, .int (nI ((told P X).2.1 k - 1))), (3, .int (nI pp)), (4, .int num), (5, .int (b01 part)), (6, .int (nI tp.length))] (by simp [ix_nd]) (by intro x hx; simp only [List.mem_cons, List.not_mem_nil, or_false] at hx; rcases hx with rfl | rfl | rfl | rfl | rfl | rfl | rfl | rfl <;> rfl) ?_
                                      exact wr c188' (by rw [c206]; simp)
                                    · have c206 : bkF (told P X) 0 = false := (b01_0 _).mp (Classical.byContradiction c206)
                                      refine gs_k (-8) 211 a_X5_send_209 (by decide +kernel) rfl ?_
                                      refine gs_iret a_X5_send_211 rfl rfl ?_
                                      rw [F3 (hR.trans (if_pos (by rw [c193, c206]; simp)))]
                                      exact ⟨rfl, hF, wE⟩
                              refine gs_n 148 a_X5_send_146 rfl ?_
                              refine gs_n 149 a_X5_send_148 rfl ?_
                              refine gs_n 150 a_X5_send_149 rfl ?_
                              refine gs_k (nI 0) 151 a_X5_send_150 (by decide +kernel) rfl ?_
                              refine gs_cv 154 a_X5_send_151 k_5_125 q_X5_bytesFrom (r_bytesFrom pp 0 (by omega) (Nat.zero_le _) s2 wE) rfl rfl rfl (by simp [Value.category]) (by first | assumption | exact hs_same _ _ _ | exact (hs_ne _ _ (by first | assumption | decide | omega)).trans (by first | assumption | exact hs_same _ _ _ | exact (hs_ne _ _ (by first | assumption | decide | omega)).trans (by first | assumption | exact hs_same _ _ _ | exact (hs_ne _ _ (by first | assumption | decide | omega)).trans (by first | assumption | exact hs_same _ _ _ | exact (hs_ne _ _ (by first | assumption | decide | omega)).trans (by first | assumption | exact hs_same _ _ _))))) rfl (fun v h1 hp => ?_)
                              cases hp
                              rw [List.drop_zero, ← hbs]
                              refine gs_k (nI 14) 156 a_X5_send_154 (by decide +kernel) rfl ?_
                              refine gs_n 157 a_X5_send_156 rfl ?_
                              refine gs_n 159 a_X5_send_157 rfl ?_
                              refine gs_n 160 a_X5_send_159 rfl ?_
                              refine gs_k (nI 14) 162 a_X5_send_160 (by decide +kernel) rfl ?_
                              refine gs_n 163 a_X5_send_162 rfl ?_
                              refine gs_n 164 a_X5_send_163 rfl ?_
                              refine gs_cv 167 a_X5_send_164 k_5_178 q_X5_openedAt (r_openedAt pp (by omega) (fun i hi => ⟨(T_b hv false i hi).2.1, fun q => by rw [tS_f, hT] at q ⊢; exact ((hg0.1.2.2.2.2.1 i hi).2.2.2.2.2.2 q).2.1⟩) wE) rfl rfl rfl (by simp [Value.category]) (by first | assumption | exact hs_same _ _ _ | exact (hs_ne _ _ (by first | assumption | decide | omega)).trans (by first | assumption | exact hs_same _ _ _ | exact (hs_ne _ _ (by first | assumption | decide | omega)).trans (by first | assumption | exact hs_same _ _ _ | exact (hs_ne _ _ (by first | assumption | decide | omega)).trans (by first | assumption | exact hs_same _ _ _ | exact (hs_ne _ _ (by first | assumption | decide | omega)).trans (by first | assumption | exact hs_same _ _ _))))) rfl (fun v h1 hp => ?_)
                              cases hp
                              refine gs_n 169 a_X5_send_167 rfl ?_
                              refine gs_if 176 172 a_X5_send_169 rfl rfl (fun c169 => ?_) (fun c169 => ?_)
                              · have c169 := (b01_0 _).mp c169
                                refine gs_k (nI 0) 177 a_X5_send_176 (by decide +kernel) rfl ?_
                                refine gs_w [(8, .int (b01 ab)), (0, .ref 96), (1, .int (nI k)), (2, .int (nI ((told P X).2.1 k - 1))), (3, .int (nI pp)), (4, .int num), (5, .int (b01 part)), (6, .int (nI tp.length))] (by simp [ix_nd]) (by intro x hx; simp only [List.mem_cons, List.not_mem_nil, or_false] at hx; rcases hx with rfl | rfl | rfl | rfl | rfl | rfl | rfl | rfl <;> rfl) ?_
                                exact k177 0 (by rw [c169]; rfl)
                              · have c169 := (b01_ne _).mp c169
                                refine gs_k (nI 1) 173 a_X5_send_172 (by decide +kernel) rfl ?_
                                refine gs_n 177 a_X5_send_173 rfl ?_
                                refine gs_w [(8, .int (b01 ab)), (0, .ref 96), (1, .int (nI k)), (2, .int (nI ((told P X).2.1 k - 1))), (3, .int (nI pp)), (4, .int num), (5, .int (b01 part)), (6, .int (nI tp.length))] (by simp [ix_nd]) (by intro x hx; simp only [List.mem_cons, List.not_mem_nil, or_false] at hx; rcases hx with rfl | rfl | rfl | rfl | rfl | rfl | rfl | rfl <;> rfl) ?_
                                exact k177 1 (by rw [c169]; rfl)
                            refine gs_n 125 a_X5_send_123 rfl ?_
                            refine gs_if 145 128 a_X5_send_125 rfl rfl (fun c125 => ?_) (fun c125 => ?_)
                            · have c125 := (b01_0 _).mp c125
                              refine gs_k (nI 0) 146 a_X5_send_145 (by decide +kernel) rfl ?_
                              refine gs_w [(0, .ref 96), (1, .int (nI k)), (2, .int (nI ((told P X).2.1 k - 1))), (3, .int (nI pp)), (4, .int num), (5, .int (b01 part)), (6, .int (nI tp.length))] (by simp [ix_nd]) (by intro x hx; simp only [List.mem_cons, List.not_mem_nil, or_false] at hx; rcases hx with rfl | rfl | rfl | rfl | rfl | rfl | rfl <;> rfl) ?_
                              exact room false (by rw [c125]; rfl)
                            · have c125 := (b01_ne _).mp c125
                              refine gs_n 129 a_X5_send_128 rfl ?_
                              refine gs_get 132 a_X5_send_129 f_5_49 (by first | assumption | exact hs_same _ _ _ | exact (hs_ne _ _ (by first | assumption | decide | omega)).trans (by first | assumption | exact hs_same _ _ _ | exact (hs_ne _ _ (by first | assumption | decide | omega)).trans (by first | assumption | exact hs_same _ _ _ | exact (hs_ne _ _ (by first | assumption | decide | omega)).trans (by first | assumption | exact hs_same _ _ _ | exact (hs_ne _ _ (by first | assumption | decide | omega)).trans (by first | assumption | exact hs_same _ _ _))))) rfl rfl ?_
                              refine gs_n 133 a_X5_send_132 rfl ?_
                              refine gs_ia k 134 a_X5_send_133 (by first | assumption | exact hs_same _ _ _ | exact (hs_ne _ _ (by first | assumption | decide | omega)).trans (by first | assumption | exact hs_same _ _ _ | exact (hs_ne _ _ (by first | assumption | decide | omega)).trans (by first | assumption | exact hs_same _ _ _ | exact (hs_ne _ _ (by first | assumption | decide | omega)).trans (by first | assumption | exact hs_same _ _ _ | exact (hs_ne _ _ (by first | assumption | decide | omega)).trans (by first | assumption | exact hs_same _ _ _))))) rfl (by omega) (by omega) rfl ?_
                              rw [t5]
                              refine gs_n 135 a_X5_send_134 rfl ?_
                              refine gs_n 136 a_X5_send_135 rfl ?_
                              refine gs_k (nI 1) 137 a_X5_send_136 (by decide +kernel) rfl ?_
                              refine gs_n 138 a_X5_send_137 rfl ?_
                              rw [bit01]
                              refine gs_if 145 141 a_X5_send_138 rfl rfl (fun c138 => ?_) (fun c138 => ?_)
                              · have c138 := (b01_ne _).mp c138
                                refine gs_k (nI 0) 146 a_X5_send_145 (by decide +kernel) rfl ?_
                                refine gs_w [(0, .ref 96), (1, .int (nI k)), (2, .int (nI ((told P X).2.1 k - 1))), (3, .int (nI pp)), (4, .int num), (5, .int (b01 part)), (6, .int (nI tp.length))] (by simp [ix_nd]) (by intro x hx; simp only [List.mem_cons, List.not_mem_nil, or_false] at hx; rcases hx with rfl | rfl | rfl | rfl | rfl | rfl | rfl <;> rfl) ?_
                                exact room false (by rw [c138]; simp)
                              · have c138 : hasB ((told P X).2.2.2.2.2.1 k) pp = false := (b01_0 _).mp (Classical.byContradiction c138)
                                refine gs_k (nI 1) 142 a_X5_send_141 (by decide +kernel) rfl ?_
                                refine gs_n 146 a_X5_send_142 rfl ?_
                                refine gs_w [(0, .ref 96), (1, .int (nI k)), (2, .int (nI ((told P X).2.1 k - 1))), (3, .int (nI pp)), (4, .int num), (5, .int (b01 part)), (6, .int (nI tp.length))] (by simp [ix_nd]) (by intro x hx; simp only [List.mem_cons, List.not_mem_nil, or_false] at hx; rcases hx with rfl | rfl | rfl | rfl | rfl | rfl | rfl <;> rfl) ?_
                                exact room true (by rw [c138, c125]; rfl)
                          · have c117 : ¬ num = nI (nxt (fl pp X) k ((told P X).2.1 k - 1)) := c117
                            refine gs_k (-6) 122 a_X5_send_120 (by decide +kernel) rfl ?_
                            refine gs_iret a_X5_send_122 rfl rfl ?_
                            rw [F3 (show sndR P cap X tp k pp num part = (-6, X) by simp only [sndR, hrec]; rw [if_pos c117])]
                            exact ⟨rfl, hF, wE⟩
                        · exact absurd rfl c103
                    · have c84 : b01 part = b01 z := Classical.byContradiction c84
                      refine gs_k (-5) 89 a_X5_send_87 (by decide +kernel) rfl ?_
                      refine gs_iret a_X5_send_89 rfl rfl ?_
                      rw [F_snd2 hrf (by rw [hkk, ← hz]; cases z <;> cases part <;> first | exact absurd c84 (by decide +kernel) | decide)]
                      exact ⟨rfl, hF, wE⟩
                  refine gs_n 69 a_X5_send_67 rfl ?_
                  refine gs_n 70 a_X5_send_69 rfl ?_
                  refine gs_get 73 a_X5_send_70 f_5_43 (by first | assumption | exact hs_same _ _ _ | exact (hs_ne _ _ (by first | assumption | decide | omega)).trans (by first | assumption | exact hs_same _ _ _ | exact (hs_ne _ _ (by first | assumption | decide | omega)).trans (by first | assumption | exact hs_same _ _ _ | exact (hs_ne _ _ (by first | assumption | decide | omega)).trans (by first | assumption | exact hs_same _ _ _ | exact (hs_ne _ _ (by first | assumption | decide | omega)).trans (by first | assumption | exact hs_same _ _ _))))) rfl rfl ?_
                  refine gs_n 74 a_X5_send_73 rfl ?_
                  refine gs_ia k 75 a_X5_send_74 (by first | assumption | exact hs_same _ _ _ | exact (hs_ne _ _ (by first | assumption | decide | omega)).trans (by first | assumption | exact hs_same _ _ _ | exact (hs_ne _ _ (by first | assumption | decide | omega)).trans (by first | assumption | exact hs_same _ _ _ | exact (hs_ne _ _ (by first | assumption | decide | omega)).trans (by first | assumption | exact hs_same _ _ _ | exact (hs_ne _ _ (by first | assumption | decide | omega)).trans (by first | assumption | exact hs_same _ _ _))))) rfl (by omega) (by omega) rfl ?_
                  rw [t3]
                  refine gs_k (-1) 76 a_X5_send_75 (by decide +kernel) rfl ?_
                  refine gs_ic 83 79 a_X5_send_76 rfl rfl (fun c76 => ?_) (fun c76 => ?_)
                  · have c76 : ¬ m1 ((told P X).2.2.1 k) = -1 := c76
                    refine gs_k (nI 0) 84 a_X5_send_83 (by decide +kernel) rfl ?_
                    exact f84 false (by rw [decide_eq_false (fun q => c76 ((m1_no (by omega)).mpr q))])
                  · have c76 : m1 ((told P X).2.2.1 k) = -1 := Classical.byContradiction c76
                    refine gs_k (nI 1) 80 a_X5_send_79 (by decide +kernel) rfl ?_
                    refine gs_n 84 a_X5_send_80 rfl ?_
                    exact f84 true (by rw [decide_eq_true ((m1_no (by omega)).mp c76)])
                · have c61 : ¬ nI ((told P X).2.1 k - 1) = e := c61
                  refine gs_k (-3) 66 a_X5_send_64 (by decide +kernel) rfl ?_
                  refine gs_iret a_X5_send_66 rfl rfl ?_
                  rw [F_snd1 (v := -3) (by unfold refF; rw [if_neg (by simp), hrg, hisP, if_neg (by simp), tS_f, hkk, m1_p hep, if_neg c61]) (by decide +kernel)]
                  exact ⟨rfl, hF, wE⟩
              · have c48 : ¬ p < nI P := c48
                rw [lt_lit' (by omega)] at c48
                refine gs_k (-2) 53 a_X5_send_51 (by decide +kernel) rfl ?_
                refine gs_iret a_X5_send_53 rfl rfl ?_
                rw [F_snd1 (refF_m2 (by unfold isPn; rw [decide_eq_false (by omega)]; rfl)) (by decide +kernel)]
                exact ⟨rfl, hF, wE⟩
    · have c15 := (b01_ne _).mp c15
      subst c15
      refine gs_k (-1) 19 a_X5_send_18 (by decide +kernel) rfl ?_
      refine gs_iret a_X5_send_19 rfl rfl ?_
      rw [F_snd1 (v := -1) (by unfold refF; rw [if_pos rfl]) (by decide +kernel)]
      exact ⟨rfl, hF, wE⟩
  have wd := wm.obj (P, cap, tmo, clk, cl, cut, X.length, sy, torn, (tS cl P X).2.2.2.2.2.2.2.2.2.1, (tS cl P X).2.2.2.2.2.2.2.2.2.2.1.length, 0, an.length)
  have w0 := wm.1
  simp only [mcell] at w0
  refine ev_of q_X5_send (Nat.le_of_ble_eq_true rfl) ?_
  refine gs_n 1 a_X5_send_0 rfl ?_
  refine gs_get 4 a_X5_send_1 f_5_168 (by first | assumption | exact hs_same _ _ _ | exact (hs_ne _ _ (by first | assumption | decide | omega)).trans (by first | assumption | exact hs_same _ _ _ | exact (hs_ne _ _ (by first | assumption | decide | omega)).trans (by first | assumption | exact hs_same _ _ _ | exact (hs_ne _ _ (by first | assumption | decide | omega)).trans (by first | assumption | exact hs_same _ _ _ | exact (hs_ne _ _ (by first | assumption | decide | omega)).trans (by first | assumption | exact hs_same _ _ _))))) rfl rfl ?_
  refine gs_n 6 a_X5_send_4 rfl ?_
  refine gs_n 7 a_X5_send_6 rfl ?_
  refine gs_k (nI 0) 8 a_X5_send_7 (by decide +kernel) rfl ?_
  refine gs_put 11 _ a_X5_send_8 f_5_168 (by first | assumption | exact hs_same _ _ _ | exact (hs_ne _ _ (by first | assumption | decide | omega)).trans (by first | assumption | exact hs_same _ _ _ | exact (hs_ne _ _ (by first | assumption | decide | omega)).trans (by first | assumption | exact hs_same _ _ _ | exact (hs_ne _ _ (by first | assumption | decide | omega)).trans (by first | assumption | exact hs_same _ _ _ | exact (hs_ne _ _ (by first | assumption | decide | omega)).trans (by first | assumption | exact hs_same _ _ _))))) (Nat.le_of_ble_eq_true rfl) rfl (fun z => absurd z (by decide)) rfl rfl ?_
  refine gs_w [(0, .ref 96), (1, .int x), (2, .int e), (3, .int p), (4, .int num), (5, .int (b01 part)), (6, .int (nI tp.length))] (by simp [ix_nd]) (by intro x hx; simp only [List.mem_cons, List.not_mem_nil, or_false] at hx; rcases hx with rfl | rfl | rfl | rfl | rfl | rfl | rfl <;> rfl) ?_
  exact main _ (FS.m _ (by omega)) wd
end R9
