/-! The reference: producer, next, byteOf, count -/
section R12
variable {d : Nat} {h : ix_H} {P cap tmo clk cut sy torn : Nat} {cl : Bool} {X : List En} {tE : En} {tp an : List Nat} {T : TS} {ar : Nat → Nat → Int32} {a1 a2 a3 : Nat} {a4 : Bool} {a5 a5' a7 a8 a9 a10 a11 a12 : Nat} {la : List (Nat × Nat × Nat)}
theorem latT_sn (l : List (Nat × Nat × Nat)) (x : Nat × Nat × Nat) (t : Nat) : (latT (l ++ [x]) t).length = (latT l t).length + (if x.1 = t then 1 else 0) := by
  unfold latT
  rw [List.filter_append, List.map_append, List.length_append]
  congr 1
  by_cases z : x.1 = t <;> simp [z]
theorem l_lats {k t a0 a6 : Nat} (hk : k < 32) (ht : t < 2 ^ 30) (h10 : ar 10 k = nI t) (hla : ∀ x ∈ la, x.1 < 2 ^ 30) (hll : la.length ≤ 1000) (h4 : ∀ i, i < la.length → ar 15 i = nI (la.getD i (0, 0, 0)).1) (w : MW h (a0, a1, a2, a3, a4, a5, a6, a7, a8, a9, la.length, a11, a12) ar) : ∀ (r i : Nat), i + r = la.length →
    gs none d mD_X5_producer (125, [(4, .int (nI i)), (3, .int (nI (latT (la.take i) t).length)), (0, .ref 96), (1, .int (nI k))], [], h) (fun u => u = (some (.int (nI (latT la t).length)), h)) := by
  obtain ⟨w0, w1, w2, w3, w4, w5, w6, w7, w8, w9, w10, w11, w12, w13, w14, w15, w16, -⟩ := id w
  simp only [mcell] at w0
  intro r
  induction r with
  | zero =>
    intro i hi
    refine gs_n 127 a_X5_producer_125 rfl ?_
    refine gs_n 128 a_X5_producer_127 rfl ?_
    refine gs_get 131 a_X5_producer_128 f_5_84 (by first | assumption | exact hs_same _ _ _ | exact (hs_ne _ _ (by first | assumption | decide | omega)).trans (by first | assumption | exact hs_same _ _ _ | exact (hs_ne _ _ (by first | assumption | decide | omega)).trans (by first | assumption | exact hs_same _ _ _ | exact (hs_ne _ _ (by first | assumption | decide | omega)).trans (by first | assumption | exact hs_same _ _ _ | exact (hs_ne _ _ (by first | assumption | decide | omega)).trans (by first | assumption | exact hs_same _ _ _))))) rfl rfl ?_
    refine gs_ic 174 134 a_X5_producer_131 rfl rfl (fun c => ?_) (fun c => ?_)
    · rw [List.take_of_length_le (by omega)]
      refine gs_n 175 a_X5_producer_174 rfl ?_
      refine gs_iret a_X5_producer_175 rfl rfl ?_
      rfl
    · exact absurd (nI_le (by omega) (by omega)) c
  | succ r ih =>
    intro i hi
    have hil : i < la.length := by omega
    have hx := hla _ (getD_memL hil)
    have fin : ∀ v, v = (if (la.getD i (0, 0, 0)).1 = t then 1 else 0) → gs none d mD_X5_producer (166, [(4, .int (nI i)), (3, .int (nI (latT (la.take i) t).length)), (0, .ref 96), (1, .int (nI k))], [.int (nI v), .int (nI (latT (la.take i) t).length)], h) (fun u => u = (some (.int (nI (latT la t).length)), h)) := by
      intro v hv
      refine gs_n 167 a_X5_producer_166 rfl ?_
      refine gs_n 168 a_X5_producer_167 rfl ?_
      first | refine gs_inc _ 171 a_X5_producer_168 rfl (Nat.le_of_ble_eq_true rfl) rfl ?_ | refine gs_n 171 a_X5_producer_168 rfl ?_
      refine gs_n 125 a_X5_producer_171 rfl ?_
      refine gs_w [(4, .int (nI (i + 1))), (3, .int (nI (latT (la.take i) t).length + nI v)), (0, .ref 96), (1, .int (nI k))] (by simp [ix_nd]) (by intro x hx; simp only [List.mem_cons, List.not_mem_nil, or_false] at hx; rcases hx with rfl | rfl | rfl | rfl <;> rfl) ?_
      rw [nI_add, hv, ← latT_sn, ← take_snocL hil]
      exact ih (i + 1) (by omega)
    refine gs_n 127 a_X5_producer_125 rfl ?_
    refine gs_n 128 a_X5_producer_127 rfl ?_
    refine gs_get 131 a_X5_producer_128 f_5_84 (by first | assumption | exact hs_same _ _ _ | exact (hs_ne _ _ (by first | assumption | decide | omega)).trans (by first | assumption | exact hs_same _ _ _ | exact (hs_ne _ _ (by first | assumption | decide | omega)).trans (by first | assumption | exact hs_same _ _ _ | exact (hs_ne _ _ (by first | assumption | decide | omega)).trans (by first | assumption | exact hs_same _ _ _ | exact (hs_ne _ _ (by first | assumption | decide | omega)).trans (by first | assumption | exact hs_same _ _ _))))) rfl rfl ?_
    refine gs_ic 174 134 a_X5_producer_131 rfl rfl (fun c => ?_) (fun c => ?_)
    · exact absurd c (nI_ge (by omega) (by omega))
    · refine gs_n 135 a_X5_producer_134 rfl ?_
      refine gs_get 138 a_X5_producer_135 f_5_43 (by first | assumption | exact hs_same _ _ _ | exact (hs_ne _ _ (by first | assumption | decide | omega)).trans (by first | assumption | exact hs_same _ _ _ | exact (hs_ne _ _ (by first | assumption | decide | omega)).trans (by first | assumption | exact hs_same _ _ _ | exact (hs_ne _ _ (by first | assumption | decide | omega)).trans (by first | assumption | exact hs_same _ _ _ | exact (hs_ne _ _ (by first | assumption | decide | omega)).trans (by first | assumption | exact hs_same _ _ _))))) rfl rfl ?_
      refine gs_n 139 a_X5_producer_138 rfl ?_
      refine gs_ia k 140 a_X5_producer_139 (by first | assumption | exact hs_same _ _ _ | exact (hs_ne _ _ (by first | assumption | decide | omega)).trans (by first | assumption | exact hs_same _ _ _ | exact (hs_ne _ _ (by first | assumption | decide | omega)).trans (by first | assumption | exact hs_same _ _ _ | exact (hs_ne _ _ (by first | assumption | decide | omega)).trans (by first | assumption | exact hs_same _ _ _ | exact (hs_ne _ _ (by first | assumption | decide | omega)).trans (by first | assumption | exact hs_same _ _ _))))) rfl (by omega) (by omega) rfl ?_
      rw [h10]
      refine gs_k (-1) 141 a_X5_producer_140 (by decide +kernel) rfl ?_
      refine gs_ic 174 144 a_X5_producer_141 rfl rfl (fun c2 => ?_) (fun c2 => ?_)
      · have c2 : nI t = -1 := c2
        exact absurd c2 (nI_nm ht)
      · refine gs_n 145 a_X5_producer_144 rfl ?_
        refine gs_n 146 a_X5_producer_145 rfl ?_
        refine gs_get 149 a_X5_producer_146 f_5_58 (by first | assumption | exact hs_same _ _ _ | exact (hs_ne _ _ (by first | assumption | decide | omega)).trans (by first | assumption | exact hs_same _ _ _ | exact (hs_ne _ _ (by first | assumption | decide | omega)).trans (by first | assumption | exact hs_same _ _ _ | exact (hs_ne _ _ (by first | assumption | decide | omega)).trans (by first | assumption | exact hs_same _ _ _ | exact (hs_ne _ _ (by first | assumption | decide | omega)).trans (by first | assumption | exact hs_same _ _ _))))) rfl rfl ?_
        refine gs_n 151 a_X5_producer_149 rfl ?_
        refine gs_ia i 152 a_X5_producer_151 (by first | assumption | exact hs_same _ _ _ | exact (hs_ne _ _ (by first | assumption | decide | omega)).trans (by first | assumption | exact hs_same _ _ _ | exact (hs_ne _ _ (by first | assumption | decide | omega)).trans (by first | assumption | exact hs_same _ _ _ | exact (hs_ne _ _ (by first | assumption | decide | omega)).trans (by first | assumption | exact hs_same _ _ _ | exact (hs_ne _ _ (by first | assumption | decide | omega)).trans (by first | assumption | exact hs_same _ _ _))))) rfl (by omega) (by omega) rfl ?_
        rw [h4 i hil]
        refine gs_n 153 a_X5_producer_152 rfl ?_
        refine gs_get 156 a_X5_producer_153 f_5_43 (by first | assumption | exact hs_same _ _ _ | exact (hs_ne _ _ (by first | assumption | decide | omega)).trans (by first | assumption | exact hs_same _ _ _ | exact (hs_ne _ _ (by first | assumption | decide | omega)).trans (by first | assumption | exact hs_same _ _ _ | exact (hs_ne _ _ (by first | assumption | decide | omega)).trans (by first | assumption | exact hs_same _ _ _ | exact (hs_ne _ _ (by first | assumption | decide | omega)).trans (by first | assumption | exact hs_same _ _ _))))) rfl rfl ?_
        refine gs_n 157 a_X5_producer_156 rfl ?_
        refine gs_ia k 158 a_X5_producer_157 (by first | assumption | exact hs_same _ _ _ | exact (hs_ne _ _ (by first | assumption | decide | omega)).trans (by first | assumption | exact hs_same _ _ _ | exact (hs_ne _ _ (by first | assumption | decide | omega)).trans (by first | assumption | exact hs_same _ _ _ | exact (hs_ne _ _ (by first | assumption | decide | omega)).trans (by first | assumption | exact hs_same _ _ _ | exact (hs_ne _ _ (by first | assumption | decide | omega)).trans (by first | assumption | exact hs_same _ _ _))))) rfl (by omega) (by omega) rfl ?_
        rw [h10]
        refine gs_ic 165 161 a_X5_producer_158 rfl rfl (fun c3 => ?_) (fun c3 => ?_)
        · have c3 : ¬ nI (la.getD i (0, 0, 0)).1 = nI t := c3
          rw [nI_eq (by omega) (by omega)] at c3
          refine gs_k (nI 0) 166 a_X5_producer_165 (by decide +kernel) rfl ?_
          exact fin 0 (by rw [if_neg c3])
        · have c3 : nI (la.getD i (0, 0, 0)).1 = nI t := Classical.byContradiction c3
          rw [nI_eq (by omega) (by omega)] at c3
          refine gs_k (nI 1) 162 a_X5_producer_161 (by decide +kernel) rfl ?_
          refine gs_n 166 a_X5_producer_162 rfl ?_
          exact fin 1 (by rw [if_pos c3])
theorem r_producer (x what : Int32) (hs : SI (P, cap, tmo, clk, cl, cut, X, sy, torn, tE, tp, an)) (w : RS h (P, cap, tmo, clk, cl, cut, X, sy, torn, tE, tp, an)) : ev (d + 1) n_X5_producer [.ref 96, .int x, .int what] h (fun u => u = (some (.int (F_producer (P, cap, tmo, clk, cl, cut, X, sy, torn, tE, tp, an) x what)), h)) := by
  obtain ⟨s1, s2, s3, s4, s5, s6, s7, s8, s9, hv, s11, s12, -⟩ := hs
  have w' : RE h P cap tmo clk cl cut X sy torn tE tp an (tS cl P X) := w
  obtain ⟨ar, wm, hE, hto, hTR, h18, h19⟩ := w'.un
  obtain ⟨w0, w1, w2, w3, w4, w5, w6, w7, w8, w9, w10, w11, w12, w13, w14, w15, w16, -⟩ := id wm
  simp only [mcell] at w0
  simp only [F_producer]
  refine ev_of q_X5_producer (Nat.le_of_ble_eq_true rfl) ?_
  refine gs_n 1 a_X5_producer_0 rfl ?_
  refine gs_get 4 a_X5_producer_1 f_5_99 (by first | assumption | exact hs_same _ _ _ | exact (hs_ne _ _ (by first | assumption | decide | omega)).trans (by first | assumption | exact hs_same _ _ _ | exact (hs_ne _ _ (by first | assumption | decide | omega)).trans (by first | assumption | exact hs_same _ _ _ | exact (hs_ne _ _ (by first | assumption | decide | omega)).trans (by first | assumption | exact hs_same _ _ _ | exact (hs_ne _ _ (by first | assumption | decide | omega)).trans (by first | assumption | exact hs_same _ _ _))))) rfl rfl ?_
  refine gs_if 26 7 a_X5_producer_4 rfl rfl (fun c4 => ?_) (fun c4 => ?_)
  · have c4 := (b01_ne _).mp c4
    refine gs_k (-1) 27 a_X5_producer_26 (by decide +kernel) rfl ?_
    refine gs_iret a_X5_producer_27 rfl rfl ?_
    rw [if_pos (by rw [c4]; rfl)]
  · have c4 : cl = false := (b01_0 _).mp (Classical.byContradiction c4)
    subst c4
    rw [tS_f] at hTR
    refine gs_n 8 a_X5_producer_7 rfl ?_
    refine gs_if 26 11 a_X5_producer_8 rfl rfl (fun c8 => ?_) (fun c8 => ?_)
    · have c8 : x < 0 := c8
      rw [lt0_iff] at c8
      refine gs_k (-1) 27 a_X5_producer_26 (by decide +kernel) rfl ?_
      refine gs_iret a_X5_producer_27 rfl rfl ?_
      rw [if_pos (by unfold rgs isK; rw [decide_eq_false (by omega)]; rfl)]
    · have c8 : ¬ x < 0 := c8
      rw [lt0_iff] at c8
      refine gs_n 12 a_X5_producer_11 rfl ?_
      refine gs_k (nI 31) 14 a_X5_producer_12 (by decide +kernel) rfl ?_
      refine gs_ic 26 17 a_X5_producer_14 rfl rfl (fun c14 => ?_) (fun c14 => ?_)
      · have c14 : nI 31 < x := c14
        rw [lt_lit (by omega)] at c14
        refine gs_k (-1) 27 a_X5_producer_26 (by decide +kernel) rfl ?_
        refine gs_iret a_X5_producer_27 rfl rfl ?_
        rw [if_pos (by unfold rgs isK; rw [decide_eq_false (by omega)]; rfl)]
      · have c14 : ¬ nI 31 < x := c14
        rw [lt_lit (by omega)] at c14
        have hisK : isK x = true := by unfold isK; exact decide_eq_true (by omega)
        obtain ⟨hk, hx⟩ := isK_kn hisK
        unfold rgs
        rw [hisK, Bool.true_and, Bool.false_or]
        generalize hkk : kn x = k at *
        subst hx
        obtain ⟨t1, t2, t3, t4, t5⟩ := hTR.k hk
        have hTb := (T_b hv false k hk).2.1
        have hTe := (T_b hv false k hk).1
        rw [tS_f] at hTb hTe
        refine gs_n 18 a_X5_producer_17 rfl ?_
        refine gs_get 21 a_X5_producer_18 f_5_36 (by first | assumption | exact hs_same _ _ _ | exact (hs_ne _ _ (by first | assumption | decide | omega)).trans (by first | assumption | exact hs_same _ _ _ | exact (hs_ne _ _ (by first | assumption | decide | omega)).trans (by first | assumption | exact hs_same _ _ _ | exact (hs_ne _ _ (by first | assumption | decide | omega)).trans (by first | assumption | exact hs_same _ _ _ | exact (hs_ne _ _ (by first | assumption | decide | omega)).trans (by first | assumption | exact hs_same _ _ _))))) rfl rfl ?_
        refine gs_n 22 a_X5_producer_21 rfl ?_
        refine gs_za k 23 a_X5_producer_22 (by first | assumption | exact hs_same _ _ _ | exact (hs_ne _ _ (by first | assumption | decide | omega)).trans (by first | assumption | exact hs_same _ _ _ | exact (hs_ne _ _ (by first | assumption | decide | omega)).trans (by first | assumption | exact hs_same _ _ _ | exact (hs_ne _ _ (by first | assumption | decide | omega)).trans (by first | assumption | exact hs_same _ _ _ | exact (hs_ne _ _ (by first | assumption | decide | omega)).trans (by first | assumption | exact hs_same _ _ _))))) rfl (by omega) (by omega) rfl ?_
        rw [t1]
        refine gs_if 28 26 a_X5_producer_23 rfl rfl (fun c23 => ?_) (fun c23 => ?_)
        · have c23 := (b01_ne _).mp c23
          have hep : (told P X).2.1 k ≠ 0 := by simpa using c23
          rw [if_neg (by rw [c23]; simp)]
          obtain ⟨n, ep, tx, bg, ba, ad, lc, de, mq, nx, la, en, hT⟩ := told_ex P X
          have hg : GT P cap X (n, ep, tx, bg, ba, ad, lc, de, mq, nx, la, en) := hT ▸ pv_all hv
          have hgr := hg.2.2.2.2.1
          rw [tS_f] at wm
          rw [hT] at t2 t3 t4 t5 hTb hTe hep hTR wm ⊢
          simp only at t2 t3 t4 t5 hTb hTe hep wm ⊢
          obtain ⟨g1, g2, g3, g4, g5, g6, g7⟩ := hg.1.2.2.2.2.1 k hk
          have hnx := hg.1.2.1
          have hlan := hg.1.2.2.1
          refine gs_n 29 a_X5_producer_28 rfl ?_
          rcases sw_cases what 5 with ⟨i, hi, rfl⟩ | hd
          · rw [swi_n (by exact hi) (by simp)]
            rcases (by omega : i = 0 ∨ i = 1 ∨ i = 2 ∨ i = 3 ∨ i = 4) with z | z | z | z | z <;> subst z
            · refine gs_n 64 a_X5_producer_29 rfl ?_
              refine gs_n 65 a_X5_producer_64 rfl ?_
              refine gs_get 68 a_X5_producer_65 f_5_40 (by first | assumption | exact hs_same _ _ _ | exact (hs_ne _ _ (by first | assumption | decide | omega)).trans (by first | assumption | exact hs_same _ _ _ | exact (hs_ne _ _ (by first | assumption | decide | omega)).trans (by first | assumption | exact hs_same _ _ _ | exact (hs_ne _ _ (by first | assumption | decide | omega)).trans (by first | assumption | exact hs_same _ _ _ | exact (hs_ne _ _ (by first | assumption | decide | omega)).trans (by first | assumption | exact hs_same _ _ _))))) rfl rfl ?_
              refine gs_n 69 a_X5_producer_68 rfl ?_
              refine gs_ia k 70 a_X5_producer_69 (by first | assumption | exact hs_same _ _ _ | exact (hs_ne _ _ (by first | assumption | decide | omega)).trans (by first | assumption | exact hs_same _ _ _ | exact (hs_ne _ _ (by first | assumption | decide | omega)).trans (by first | assumption | exact hs_same _ _ _ | exact (hs_ne _ _ (by first | assumption | decide | omega)).trans (by first | assumption | exact hs_same _ _ _ | exact (hs_ne _ _ (by first | assumption | decide | omega)).trans (by first | assumption | exact hs_same _ _ _))))) rfl (by omega) (by omega) rfl ?_
              rw [t2 hep]
              refine gs_iret a_X5_producer_70 rfl rfl ?_
              rw [← m1_p hep]
              rfl
            · refine gs_n 71 a_X5_producer_29 rfl ?_
              refine gs_n 72 a_X5_producer_71 rfl ?_
              refine gs_get 75 a_X5_producer_72 f_5_43 (by first | assumption | exact hs_same _ _ _ | exact (hs_ne _ _ (by first | assumption | decide | omega)).trans (by first | assumption | exact hs_same _ _ _ | exact (hs_ne _ _ (by first | assumption | decide | omega)).trans (by first | assumption | exact hs_same _ _ _ | exact (hs_ne _ _ (by first | assumption | decide | omega)).trans (by first | assumption | exact hs_same _ _ _ | exact (hs_ne _ _ (by first | assumption | decide | omega)).trans (by first | assumption | exact hs_same _ _ _))))) rfl rfl ?_
              refine gs_n 76 a_X5_producer_75 rfl ?_
              refine gs_ia k 77 a_X5_producer_76 (by first | assumption | exact hs_same _ _ _ | exact (hs_ne _ _ (by first | assumption | decide | omega)).trans (by first | assumption | exact hs_same _ _ _ | exact (hs_ne _ _ (by first | assumption | decide | omega)).trans (by first | assumption | exact hs_same _ _ _ | exact (hs_ne _ _ (by first | assumption | decide | omega)).trans (by first | assumption | exact hs_same _ _ _ | exact (hs_ne _ _ (by first | assumption | decide | omega)).trans (by first | assumption | exact hs_same _ _ _))))) rfl (by omega) (by omega) rfl ?_
              rw [t3]
              refine gs_iret a_X5_producer_77 rfl rfl ?_
              rfl
            · refine gs_n 78 a_X5_producer_29 rfl ?_
              refine gs_n 79 a_X5_producer_78 rfl ?_
              refine gs_get 82 a_X5_producer_79 f_5_43 (by first | assumption | exact hs_same _ _ _ | exact (hs_ne _ _ (by first | assumption | decide | omega)).trans (by first | assumption | exact hs_same _ _ _ | exact (hs_ne _ _ (by first | assumption | decide | omega)).trans (by first | assumption | exact hs_same _ _ _ | exact (hs_ne _ _ (by first | assumption | decide | omega)).trans (by first | assumption | exact hs_same _ _ _ | exact (hs_ne _ _ (by first | assumption | decide | omega)).trans (by first | assumption | exact hs_same _ _ _))))) rfl rfl ?_
              refine gs_n 83 a_X5_producer_82 rfl ?_
              refine gs_ia k 84 a_X5_producer_83 (by first | assumption | exact hs_same _ _ _ | exact (hs_ne _ _ (by first | assumption | decide | omega)).trans (by first | assumption | exact hs_same _ _ _ | exact (hs_ne _ _ (by first | assumption | decide | omega)).trans (by first | assumption | exact hs_same _ _ _ | exact (hs_ne _ _ (by first | assumption | decide | omega)).trans (by first | assumption | exact hs_same _ _ _ | exact (hs_ne _ _ (by first | assumption | decide | omega)).trans (by first | assumption | exact hs_same _ _ _))))) rfl (by omega) (by omega) rfl ?_
              rw [t3]
              refine gs_k (-1) 85 a_X5_producer_84 (by decide +kernel) rfl ?_
              refine gs_ic 92 88 a_X5_producer_85 rfl rfl (fun c85 => ?_) (fun c85 => ?_)
              · have c85 : ¬ m1 (tx k) = -1 := c85
                refine gs_n 93 a_X5_producer_92 rfl ?_
                refine gs_get 96 a_X5_producer_93 f_5_46 (by first | assumption | exact hs_same _ _ _ | exact (hs_ne _ _ (by first | assumption | decide | omega)).trans (by first | assumption | exact hs_same _ _ _ | exact (hs_ne _ _ (by first | assumption | decide | omega)).trans (by first | assumption | exact hs_same _ _ _ | exact (hs_ne _ _ (by first | assumption | decide | omega)).trans (by first | assumption | exact hs_same _ _ _ | exact (hs_ne _ _ (by first | assumption | decide | omega)).trans (by first | assumption | exact hs_same _ _ _))))) rfl rfl ?_
                refine gs_n 97 a_X5_producer_96 rfl ?_
                refine gs_ia k 98 a_X5_producer_97 (by first | assumption | exact hs_same _ _ _ | exact (hs_ne _ _ (by first | assumption | decide | omega)).trans (by first | assumption | exact hs_same _ _ _ | exact (hs_ne _ _ (by first | assumption | decide | omega)).trans (by first | assumption | exact hs_same _ _ _ | exact (hs_ne _ _ (by first | assumption | decide | omega)).trans (by first | assumption | exact hs_same _ _ _ | exact (hs_ne _ _ (by first | assumption | decide | omega)).trans (by first | assumption | exact hs_same _ _ _))))) rfl (by omega) (by omega) rfl ?_
                rw [t4 (fun q => c85 ((m1_no (by omega)).mpr q))]
                refine gs_iret a_X5_producer_98 rfl rfl ?_
                rfl
              · have c85 : m1 (tx k) = -1 := Classical.byContradiction c85
                have z := (m1_no (by omega)).mp c85
                refine gs_k (-1) 89 a_X5_producer_88 (by decide +kernel) rfl ?_
                refine gs_n 98 a_X5_producer_89 rfl ?_
                refine gs_iret a_X5_producer_98 rfl rfl ?_
                show (some (Value.int (-1)), h) = (some (Value.int (m1 (bg k))), h)
                rw [(g7 z).1, m1_0]
            · refine gs_n 99 a_X5_producer_29 rfl ?_
              refine gs_n 100 a_X5_producer_99 rfl ?_
              refine gs_get 103 a_X5_producer_100 f_5_43 (by first | assumption | exact hs_same _ _ _ | exact (hs_ne _ _ (by first | assumption | decide | omega)).trans (by first | assumption | exact hs_same _ _ _ | exact (hs_ne _ _ (by first | assumption | decide | omega)).trans (by first | assumption | exact hs_same _ _ _ | exact (hs_ne _ _ (by first | assumption | decide | omega)).trans (by first | assumption | exact hs_same _ _ _ | exact (hs_ne _ _ (by first | assumption | decide | omega)).trans (by first | assumption | exact hs_same _ _ _))))) rfl rfl ?_
              refine gs_n 104 a_X5_producer_103 rfl ?_
              refine gs_ia k 105 a_X5_producer_104 (by first | assumption | exact hs_same _ _ _ | exact (hs_ne _ _ (by first | assumption | decide | omega)).trans (by first | assumption | exact hs_same _ _ _ | exact (hs_ne _ _ (by first | assumption | decide | omega)).trans (by first | assumption | exact hs_same _ _ _ | exact (hs_ne _ _ (by first | assumption | decide | omega)).trans (by first | assumption | exact hs_same _ _ _ | exact (hs_ne _ _ (by first | assumption | decide | omega)).trans (by first | assumption | exact hs_same _ _ _))))) rfl (by omega) (by omega) rfl ?_
              rw [t3]
              refine gs_k (-1) 106 a_X5_producer_105 (by decide +kernel) rfl ?_
              refine gs_ic 113 109 a_X5_producer_106 rfl rfl (fun c106 => ?_) (fun c106 => ?_)
              · refine gs_n 114 a_X5_producer_113 rfl ?_
                refine gs_get 117 a_X5_producer_114 f_5_49 (by first | assumption | exact hs_same _ _ _ | exact (hs_ne _ _ (by first | assumption | decide | omega)).trans (by first | assumption | exact hs_same _ _ _ | exact (hs_ne _ _ (by first | assumption | decide | omega)).trans (by first | assumption | exact hs_same _ _ _ | exact (hs_ne _ _ (by first | assumption | decide | omega)).trans (by first | assumption | exact hs_same _ _ _ | exact (hs_ne _ _ (by first | assumption | decide | omega)).trans (by first | assumption | exact hs_same _ _ _))))) rfl rfl ?_
                refine gs_n 118 a_X5_producer_117 rfl ?_
                refine gs_ia k 119 a_X5_producer_118 (by first | assumption | exact hs_same _ _ _ | exact (hs_ne _ _ (by first | assumption | decide | omega)).trans (by first | assumption | exact hs_same _ _ _ | exact (hs_ne _ _ (by first | assumption | decide | omega)).trans (by first | assumption | exact hs_same _ _ _ | exact (hs_ne _ _ (by first | assumption | decide | omega)).trans (by first | assumption | exact hs_same _ _ _ | exact (hs_ne _ _ (by first | assumption | decide | omega)).trans (by first | assumption | exact hs_same _ _ _))))) rfl (by omega) (by omega) rfl ?_
                rw [t5]
                refine gs_iret a_X5_producer_119 rfl rfl ?_
                rfl
              · have c106 : m1 (tx k) = -1 := Classical.byContradiction c106
                have z := (m1_no (by omega)).mp c106
                refine gs_k (nI 0) 110 a_X5_producer_109 (by decide +kernel) rfl ?_
                refine gs_n 119 a_X5_producer_110 rfl ?_
                refine gs_iret a_X5_producer_119 rfl rfl ?_
                show (some (Value.int (nI 0)), h) = (some (Value.int (ad k)), h)
                rw [(g7 z).2.1]
            · refine gs_n 120 a_X5_producer_29 rfl ?_
              show gs none d mD_X5_producer _ (fun u => u = (some (Value.int (nI (lc k))), h))
              by_cases z : tx k = 0
              · rw [(g7 z).2.2.1]
                rw [z, m1_0] at t3
                refine gs_k (nI 0) 121 a_X5_producer_120 (by decide +kernel) rfl ?_
                refine gs_n 122 a_X5_producer_121 rfl ?_
                refine gs_k (nI 0) 123 a_X5_producer_122 (by decide +kernel) rfl ?_
                refine gs_n 125 a_X5_producer_123 rfl ?_
                refine gs_n 127 a_X5_producer_125 rfl ?_
                refine gs_n 128 a_X5_producer_127 rfl ?_
                refine gs_get 131 a_X5_producer_128 f_5_84 (by first | assumption | exact hs_same _ _ _ | exact (hs_ne _ _ (by first | assumption | decide | omega)).trans (by first | assumption | exact hs_same _ _ _ | exact (hs_ne _ _ (by first | assumption | decide | omega)).trans (by first | assumption | exact hs_same _ _ _ | exact (hs_ne _ _ (by first | assumption | decide | omega)).trans (by first | assumption | exact hs_same _ _ _ | exact (hs_ne _ _ (by first | assumption | decide | omega)).trans (by first | assumption | exact hs_same _ _ _))))) rfl rfl ?_
                refine gs_ic 174 134 a_X5_producer_131 rfl rfl (fun c131 => ?_) (fun c131 => ?_)
                · refine gs_n 175 a_X5_producer_174 rfl ?_
                  refine gs_iret a_X5_producer_175 rfl rfl ?_
                  rfl
                · refine gs_n 135 a_X5_producer_134 rfl ?_
                  refine gs_get 138 a_X5_producer_135 f_5_43 (by first | assumption | exact hs_same _ _ _ | exact (hs_ne _ _ (by first | assumption | decide | omega)).trans (by first | assumption | exact hs_same _ _ _ | exact (hs_ne _ _ (by first | assumption | decide | omega)).trans (by first | assumption | exact hs_same _ _ _ | exact (hs_ne _ _ (by first | assumption | decide | omega)).trans (by first | assumption | exact hs_same _ _ _ | exact (hs_ne _ _ (by first | assumption | decide | omega)).trans (by first | assumption | exact hs_same _ _ _))))) rfl rfl ?_
                  refine gs_n 139 a_X5_producer_138 rfl ?_
                  refine gs_ia k 140 a_X5_producer_139 (by first | assumption | exact hs_same _ _ _ | exact (hs_ne _ _ (by first | assumption | decide | omega)).trans (by first | assumption | exact hs_same _ _ _ | exact (hs_ne _ _ (by first | assumption | decide | omega)).trans (by first | assumption | exact hs_same _ _ _ | exact (hs_ne _ _ (by first | assumption | decide | omega)).trans (by first | assumption | exact hs_same _ _ _ | exact (hs_ne _ _ (by first | assumption | decide | omega)).trans (by first | assumption | exact hs_same _ _ _))))) rfl (by omega) (by omega) rfl ?_
                  rw [t3]
                  refine gs_k (-1) 141 a_X5_producer_140 (by decide +kernel) rfl ?_
                  refine gs_ic 174 144 a_X5_producer_141 rfl rfl (fun c141 => ?_) (fun c141 => ?_)
                  · refine gs_n 175 a_X5_producer_174 rfl ?_
                    refine gs_iret a_X5_producer_175 rfl rfl ?_
                    rfl
                  · exact absurd rfl c141
              · rw [(hg.2.1 k hk z).2]
                rw [m1_p z] at t3
                refine gs_k (nI 0) 121 a_X5_producer_120 (by decide +kernel) rfl ?_
                refine gs_n 122 a_X5_producer_121 rfl ?_
                refine gs_k (nI 0) 123 a_X5_producer_122 (by decide +kernel) rfl ?_
                refine gs_n 125 a_X5_producer_123 rfl ?_
                refine gs_w [(4, .int (nI 0)), (3, .int (nI (latT (la.take 0) (tx k - 1)).length)), (0, .ref 96), (1, .int (nI k))] (by simp [ix_nd]) (by intro x hx; simp only [List.mem_cons, List.not_mem_nil, or_false] at hx; rcases hx with rfl | rfl | rfl | rfl <;> rfl) ?_
                exact l_lats hk (by omega) t3 (fun y hy => by have := (hg.1.2.2.2.2.2.2.1 y hy).1; omega) (by omega) (fun i hi => (hTR.2.2.2 i hi).1) wm la.length 0 (by omega)
          · rw [swi_d (by simp only [List.length_cons, List.length_nil]; omega)]
            refine gs_swd 176 a_X5_producer_29 (by omega) rfl ?_
            refine gs_k (-1) 177 a_X5_producer_176 (by decide +kernel) rfl ?_
            refine gs_iret a_X5_producer_177 rfl rfl ?_
            rfl
        · have c23 : (!decide ((told P X).2.1 k = 0)) = false := (b01_0 _).mp (Classical.byContradiction c23)
          rw [if_pos (by rw [c23]; rfl)]
          refine gs_k (-1) 27 a_X5_producer_26 (by decide +kernel) rfl ?_
          refine gs_iret a_X5_producer_27 rfl rfl ?_
          rfl
theorem r_next (x p : Int32) (hs : SI (P, cap, tmo, clk, cl, cut, X, sy, torn, tE, tp, an)) (w : RS h (P, cap, tmo, clk, cl, cut, X, sy, torn, tE, tp, an)) : ev (d + 2) n_X5_next [.ref 96, .int x, .int p] h (fun u => u = (some (.int (F_next (P, cap, tmo, clk, cl, cut, X, sy, torn, tE, tp, an) x p)), h)) := by
  obtain ⟨s1, s2, s3, s4, s5, s6, s7, s8, s9, hv, s11, s12, -⟩ := hs
  have w' : RE h P cap tmo clk cl cut X sy torn tE tp an (tS cl P X) := w
  obtain ⟨ar, wm, hE, hto, hTR, h18, h19⟩ := w'.un
  obtain ⟨w0, w1, w2, w3, w4, w5, w6, w7, w8, w9, w10, -⟩ := id wm
  simp only [mcell] at w0
  simp only [F_next]
  refine ev_of q_X5_next (Nat.le_of_ble_eq_true rfl) ?_
  refine gs_n 1 a_X5_next_0 rfl ?_
  refine gs_get 4 a_X5_next_1 f_5_99 (by first | assumption | exact hs_same _ _ _ | exact (hs_ne _ _ (by first | assumption | decide | omega)).trans (by first | assumption | exact hs_same _ _ _ | exact (hs_ne _ _ (by first | assumption | decide | omega)).trans (by first | assumption | exact hs_same _ _ _ | exact (hs_ne _ _ (by first | assumption | decide | omega)).trans (by first | assumption | exact hs_same _ _ _ | exact (hs_ne _ _ (by first | assumption | decide | omega)).trans (by first | assumption | exact hs_same _ _ _))))) rfl rfl ?_
  refine gs_if 34 7 a_X5_next_4 rfl rfl (fun c4 => ?_) (fun c4 => ?_)
  · have c4 := (b01_ne _).mp c4
    refine gs_k (-1) 35 a_X5_next_34 (by decide +kernel) rfl ?_
    refine gs_n 44 a_X5_next_35 rfl ?_
    refine gs_iret a_X5_next_44 rfl rfl ?_
    rw [if_pos (by rw [c4]; rfl)]
  · have c4 : cl = false := (b01_0 _).mp (Classical.byContradiction c4)
    subst c4
    rw [tS_f] at hTR
    refine gs_n 8 a_X5_next_7 rfl ?_
    refine gs_if 34 11 a_X5_next_8 rfl rfl (fun c8 => ?_) (fun c8 => ?_)
    · have c8 : x < 0 := c8
      rw [lt0_iff] at c8
      refine gs_k (-1) 35 a_X5_next_34 (by decide +kernel) rfl ?_
      refine gs_n 44 a_X5_next_35 rfl ?_
      refine gs_iret a_X5_next_44 rfl rfl ?_
      rw [if_pos (by unfold rgs isK; rw [decide_eq_false (by omega)]; rfl)]
    · have c8 : ¬ x < 0 := c8
      rw [lt0_iff] at c8
      refine gs_n 12 a_X5_next_11 rfl ?_
      refine gs_k (nI 31) 14 a_X5_next_12 (by decide +kernel) rfl ?_
      refine gs_ic 34 17 a_X5_next_14 rfl rfl (fun c14 => ?_) (fun c14 => ?_)
      · have c14 : nI 31 < x := c14
        rw [lt_lit (by omega)] at c14
        refine gs_k (-1) 35 a_X5_next_34 (by decide +kernel) rfl ?_
        refine gs_n 44 a_X5_next_35 rfl ?_
        refine gs_iret a_X5_next_44 rfl rfl ?_
        rw [if_pos (by unfold rgs isK; rw [decide_eq_false (by omega)]; rfl)]
      · have c14 : ¬ nI 31 < x := c14
        rw [lt_lit (by omega)] at c14
        have hisK : isK x = true := by unfold isK; exact decide_eq_true (by omega)
        obtain ⟨hk, hx⟩ := isK_kn hisK
        unfold rgs
        rw [hisK, Bool.true_and, Bool.false_or]
        generalize hkk : kn x = k at *
        subst hx
        obtain ⟨t1, t2, t3, t4, t5⟩ := hTR.k hk
        have hTe := (T_b hv false k hk).1
        rw [tS_f] at hTe
        refine gs_n 18 a_X5_next_17 rfl ?_
        refine gs_get 21 a_X5_next_18 f_5_36 (by first | assumption | exact hs_same _ _ _ | exact (hs_ne _ _ (by first | assumption | decide | omega)).trans (by first | assumption | exact hs_same _ _ _ | exact (hs_ne _ _ (by first | assumption | decide | omega)).trans (by first | assumption | exact hs_same _ _ _ | exact (hs_ne _ _ (by first | assumption | decide | omega)).trans (by first | assumption | exact hs_same _ _ _ | exact (hs_ne _ _ (by first | assumption | decide | omega)).trans (by first | assumption | exact hs_same _ _ _))))) rfl rfl ?_
        refine gs_n 22 a_X5_next_21 rfl ?_
        refine gs_za k 23 a_X5_next_22 (by first | assumption | exact hs_same _ _ _ | exact (hs_ne _ _ (by first | assumption | decide | omega)).trans (by first | assumption | exact hs_same _ _ _ | exact (hs_ne _ _ (by first | assumption | decide | omega)).trans (by first | assumption | exact hs_same _ _ _ | exact (hs_ne _ _ (by first | assumption | decide | omega)).trans (by first | assumption | exact hs_same _ _ _ | exact (hs_ne _ _ (by first | assumption | decide | omega)).trans (by first | assumption | exact hs_same _ _ _))))) rfl (by omega) (by omega) rfl ?_
        rw [t1]
        refine gs_if 34 26 a_X5_next_23 rfl rfl (fun c23 => ?_) (fun c23 => ?_)
        · have c23 := (b01_0 _).mp c23
          refine gs_k (-1) 35 a_X5_next_34 (by decide +kernel) rfl ?_
          refine gs_n 44 a_X5_next_35 rfl ?_
          refine gs_iret a_X5_next_44 rfl rfl ?_
          rw [if_pos (by rw [c23]; rfl)]
        · have c23 := (b01_ne _).mp c23
          have hep : (told P X).2.1 k ≠ 0 := by simpa using c23
          rw [c23, Bool.not_true, Bool.false_or]
          refine gs_n 27 a_X5_next_26 rfl ?_
          refine gs_n 28 a_X5_next_27 rfl ?_
          refine gs_cv 31 a_X5_next_28 k_5_185 q_X5_isPartition (r_isPart p s2 w') rfl rfl rfl (by simp [Value.category]) (by first | assumption | exact hs_same _ _ _ | exact (hs_ne _ _ (by first | assumption | decide | omega)).trans (by first | assumption | exact hs_same _ _ _ | exact (hs_ne _ _ (by first | assumption | decide | omega)).trans (by first | assumption | exact hs_same _ _ _ | exact (hs_ne _ _ (by first | assumption | decide | omega)).trans (by first | assumption | exact hs_same _ _ _ | exact (hs_ne _ _ (by first | assumption | decide | omega)).trans (by first | assumption | exact hs_same _ _ _))))) rfl (fun v h1 hp => ?_)
          cases hp
          refine gs_if 38 34 a_X5_next_31 rfl rfl (fun c31 => ?_) (fun c31 => ?_)
          · have c31 := (b01_ne _).mp c31
            rw [if_neg (by rw [c31]; simp)]
            obtain ⟨hp, hpx⟩ := isPn_kn c31
            generalize hkp : kn p = pp at *
            subst hpx
            refine gs_n 39 a_X5_next_38 rfl ?_
            refine gs_n 40 a_X5_next_39 rfl ?_
            refine gs_n 41 a_X5_next_40 rfl ?_
            refine gs_cv 44 a_X5_next_41 k_5_175 q_X5_nextOf (m_nextOf hk (show pp ≤ 8 by omega) hE (t2 hep) (by omega) wm) rfl rfl rfl (by simp [Value.category]) (by first | assumption | exact hs_same _ _ _ | exact (hs_ne _ _ (by first | assumption | decide | omega)).trans (by first | assumption | exact hs_same _ _ _ | exact (hs_ne _ _ (by first | assumption | decide | omega)).trans (by first | assumption | exact hs_same _ _ _ | exact (hs_ne _ _ (by first | assumption | decide | omega)).trans (by first | assumption | exact hs_same _ _ _ | exact (hs_ne _ _ (by first | assumption | decide | omega)).trans (by first | assumption | exact hs_same _ _ _))))) rfl (fun v h1 hp => ?_)
            cases hp
            refine gs_iret a_X5_next_44 rfl rfl ?_
            rfl
          · have c31 : isPn P p = false := (b01_0 _).mp (Classical.byContradiction c31)
            rw [if_pos (by rw [c31]; rfl)]
            refine gs_k (-1) 35 a_X5_next_34 (by decide +kernel) rfl ?_
            refine gs_n 44 a_X5_next_35 rfl ?_
            refine gs_iret a_X5_next_44 rfl rfl ?_
            rfl
/-! bytes -/
theorem shr_byte (v : Int32) {k : Nat} (hk : k < 4) : (v >>> (nI (8 * k) &&& 31)) &&& nI 255 = nI (v.toBitVec.toNat / 2 ^ (8 * k) % 256) := by
  have e1 : ((nI (8 * k) &&& 31 : Int32).toBitVec.smod 32) = BitVec.ofNat 32 (8 * k) := by
    have : ∀ k, k < 4 → ((nI (8 * k) &&& 31 : Int32).toBitVec.smod 32) = BitVec.ofNat 32 (8 * k) := by decide +kernel
    exact this k hk
  have e2 : (BitVec.ofNat 32 (8 * k)).toNat = 8 * k := by rw [BitVec.toNat_ofNat]; omega
  apply i32_ext
  rw [Int32.toBitVec_and, Int32.toBitVec_shiftRight, e1, BitVec.sshiftRight_eq', e2, nI_bv, nI_bv]
  apply BitVec.eq_of_getLsbD_eq
  intro i hi
  rw [BitVec.getLsbD_and, BitVec.getLsbD_ofNat, BitVec.getLsbD_ofNat]
  by_cases z : i < 8
  · have h1 : Nat.testBit 255 i = true := by
      have : ∀ i, i < 8 → Nat.testBit 255 i = true := by decide
      exact this i z
    rw [h1, show (256 : Nat) = 2 ^ 8 from rfl, Nat.testBit_mod_two_pow, Nat.testBit_div_two_pow, BitVec.getLsbD_sshiftRight]
    simp [hi, z, show ¬ 32 ≤ i by omega, show 8 * k + i < 32 by omega, show i + 8 * k < 32 by omega, BitVec.getLsbD, Nat.add_comm]
  · have hp : 2 ^ 8 ≤ 2 ^ i := Nat.pow_le_pow_right (by decide) (by omega)
    have h1 : Nat.testBit 255 i = false := Nat.testBit_lt_two_pow (by omega)
    have h2 : Nat.testBit (v.toBitVec.toNat / 2 ^ (8 * k) % 256) i = false := Nat.testBit_lt_two_pow (by have := Nat.mod_lt (v.toBitVec.toNat / 2 ^ (8 * k)) (show 256 > 0 by decide); omega)
    rw [h1, h2]
    simp
theorem r_byteIn (v : Int32) {w i : Nat} (hw : w ≤ 4) (hi : i < w) : ev (d + 1) n_X5_byteIn [.int v, .int (nI w), .int (nI i)] h (fun u => u = (some (.int (nI ((be w v).getD i 0))), h)) := by
  rw [be_get v w i hi, ← shr_byte v (show w - 1 - i < 4 by omega)]
  refine ev_of q_X5_byteIn (Nat.le_of_ble_eq_true rfl) ?_
  refine gs_n 1 a_X5_byteIn_0 rfl ?_
  refine gs_k (nI 8) 3 a_X5_byteIn_1 (by decide +kernel) rfl ?_
  refine gs_n 4 a_X5_byteIn_3 rfl ?_
  refine gs_k (nI 1) 5 a_X5_byteIn_4 (by decide +kernel) rfl ?_
  refine gs_n 6 a_X5_byteIn_5 rfl ?_
  refine gs_n 7 a_X5_byteIn_6 rfl ?_
  refine gs_n 8 a_X5_byteIn_7 rfl ?_
  rw [show nI w - nI 1 - nI i = nI (w - 1 - i) by rw [pk_sub (by omega), pk_sub (by omega)]]
  refine gs_n 9 a_X5_byteIn_8 rfl ?_
  rw [pk_mul]
  refine gs_n 10 a_X5_byteIn_9 rfl ?_
  refine gs_k (nI 255) 13 a_X5_byteIn_10 (by decide +kernel) rfl ?_
  refine gs_n 14 a_X5_byteIn_13 rfl ?_
  refine gs_iret a_X5_byteIn_14 rfl rfl ?_
  rfl
theorem gd_l {l m : List Nat} {i : Nat} (hi : i < l.length) : (l ++ m).getD i 0 = l.getD i 0 := getD_append_l hi
theorem gd_r {l m : List Nat} {i : Nat} (hi : l.length ≤ i) : (l ++ m).getD i 0 = m.getD (i - l.length) 0 := by simp [List.getD, List.getElem?_append_right hi]
theorem be1 {K : Nat} (hK : K < 256) : (be 1 (nI K)).getD 0 0 = K := by
  rw [be_get _ 1 0 (by omega), nI_bv, BitVec.toNat_ofNat]
  omega
def bodyO (P : Nat) (e : En) : List Nat := if eF e = P then bodyB e else bodyP e
def encO (P : Nat) (e : En) : List Nat := be 4 (sumI (bodyO P e)) ++ bodyO P e
theorem bodyO_len {e : En} (hok : okM P e) : (bodyO P e).length = sz P e - 4 := by
  unfold bodyO sz
  by_cases z : eF e = P
  · rw [if_pos z, if_pos z]
    simp [bodyB, be_len]
  · rw [if_neg z, if_neg z]
    have := (hok.2.2.2.2.2.2.2.1 z).1
    simp [bodyP, be_len]
    omega
theorem encO_len {e : En} (hok : okM P e) : (encO P e).length = sz P e := by
  unfold encO
  rw [List.length_append, be_len, bodyO_len hok]
  unfold sz
  split <;> omega
theorem encO_B {e : En} (he : eF e = P) : encO P e = encB e := by
  unfold encO bodyO
  rw [if_pos he]
  rfl
theorem encO_P {e : En} (he : eF e ≠ P) : encO P e = encP e := by
  unfold encO bodyO
  rw [if_neg he]
  rfl
theorem encO_4 {e : En} {j : Nat} : (encO P e).getD (4 + j) 0 = (bodyO P e).getD j 0 := by
  unfold encO
  rw [gd_r (by rw [be_len]; omega), be_len, Nat.add_sub_cancel_left]
theorem r_behind {e : En} {j i : Nat} (hj : j < 4200) (hi1 : 4 ≤ i) (hi2 : i < sz P e) (hA : AtA ar j e) (hok : okM P e) (hP : P ≤ 8) (w : MW h (P, a1, a2, a3, a4, a5, a7, a8, a9, a10, a11, a12, a5') ar) : ev (d + 2) n_X5_behind [.ref 96, .int (nI j), .int (nI i)] h (fun u => u = (some (.int (nI ((encO P e).getD i 0))), h)) := by
  obtain ⟨g0, g1, g2, g3, g4, g5, g6, g7⟩ := hA
  obtain ⟨w0, w1, w2, w3, w4, w5, w6, w7, w8, -⟩ := id w
  simp only [mcell] at w0
  have hs54 := sz_le hok
  refine ev_of q_X5_behind (Nat.le_of_ble_eq_true rfl) ?_
  refine gs_n 1 a_X5_behind_0 rfl ?_
  refine gs_get 4 a_X5_behind_1 f_5_9 (by first | assumption | exact hs_same _ _ _ | exact (hs_ne _ _ (by first | assumption | decide | omega)).trans (by first | assumption | exact hs_same _ _ _ | exact (hs_ne _ _ (by first | assumption | decide | omega)).trans (by first | assumption | exact hs_same _ _ _ | exact (hs_ne _ _ (by first | assumption | decide | omega)).trans (by first | assumption | exact hs_same _ _ _ | exact (hs_ne _ _ (by first | assumption | decide | omega)).trans (by first | assumption | exact hs_same _ _ _))))) rfl rfl ?_
  refine gs_n 5 a_X5_behind_4 rfl ?_
  refine gs_ia j 6 a_X5_behind_5 (by first | assumption | exact hs_same _ _ _ | exact (hs_ne _ _ (by first | assumption | decide | omega)).trans (by first | assumption | exact hs_same _ _ _ | exact (hs_ne _ _ (by first | assumption | decide | omega)).trans (by first | assumption | exact hs_same _ _ _ | exact (hs_ne _ _ (by first | assumption | decide | omega)).trans (by first | assumption | exact hs_same _ _ _ | exact (hs_ne _ _ (by first | assumption | decide | omega)).trans (by first | assumption | exact hs_same _ _ _))))) rfl (by omega) (by omega) rfl ?_
  rw [g0]
  refine gs_n 7 a_X5_behind_6 rfl ?_
  refine gs_get 10 a_X5_behind_7 f_5_87 (by first | assumption | exact hs_same _ _ _ | exact (hs_ne _ _ (by first | assumption | decide | omega)).trans (by first | assumption | exact hs_same _ _ _ | exact (hs_ne _ _ (by first | assumption | decide | omega)).trans (by first | assumption | exact hs_same _ _ _ | exact (hs_ne _ _ (by first | assumption | decide | omega)).trans (by first | assumption | exact hs_same _ _ _ | exact (hs_ne _ _ (by first | assumption | decide | omega)).trans (by first | assumption | exact hs_same _ _ _))))) rfl rfl ?_
  refine gs_ic 102 13 a_X5_behind_10 rfl rfl (fun c10 => ?_) (fun c10 => ?_)
  · have c10 : ¬ nI (eF e) = nI P := c10
    rw [nI_eq (by have := hok.1; omega) (by omega)] at c10
    rw [encO_P c10]
    obtain ⟨hb1, hb2, hb3⟩ := hok.2.2.2.2.2.2.2.1 c10
    unfold sz at hi2
    rw [if_neg c10] at hi2
    unfold encP bodyP
    rw [gd_r (by rw [be_len]; omega), be_len]
    refine gs_n 103 a_X5_behind_102 rfl ?_
    refine gs_k (nI 6) 105 a_X5_behind_103 (by decide +kernel) rfl ?_
    refine gs_ic 122 108 a_X5_behind_105 rfl rfl (fun c105 => ?_) (fun c105 => ?_)
    · have c105 : nI 6 ≤ nI i := c105
      rw [nI_leI (by omega) (by omega)] at c105
      rw [gd_r (by rw [be_len]; omega), be_len]
      refine gs_n 123 a_X5_behind_122 rfl ?_
      refine gs_k (nI 8) 125 a_X5_behind_123 (by decide +kernel) rfl ?_
      refine gs_ic 150 128 a_X5_behind_125 rfl rfl (fun c125 => ?_) (fun c125 => ?_)
      · have c125 : nI 8 ≤ nI i := c125
        rw [nI_leI (by omega) (by omega)] at c125
        rw [gd_r (by rw [be_len]; omega), be_len, gd_r (by rw [be_len]; omega), be_len]
        refine gs_n 151 a_X5_behind_150 rfl ?_
        refine gs_k (nI 10) 153 a_X5_behind_151 (by decide +kernel) rfl ?_
        refine gs_ic 173 156 a_X5_behind_153 rfl rfl (fun c153 => ?_) (fun c153 => ?_)
        · have c153 : nI 10 ≤ nI i := c153
          rw [nI_leI (by omega) (by omega)] at c153
          rw [gd_r (by rw [be_len]; omega), be_len]
          refine gs_n 174 a_X5_behind_173 rfl ?_
          refine gs_k (nI 14) 176 a_X5_behind_174 (by decide +kernel) rfl ?_
          refine gs_ic 196 179 a_X5_behind_176 rfl rfl (fun c176 => ?_) (fun c176 => ?_)
          · have c176 : nI 14 ≤ nI i := c176
            rw [nI_leI (by omega) (by omega)] at c176
            rw [gd_r (by rw [be_len]; omega), be_len, show i - 4 - 2 - 1 - 1 - 2 - 4 = i - 14 by omega]
            refine gs_n 197 a_X5_behind_196 rfl ?_
            refine gs_get 200 a_X5_behind_197 f_5_32 (by first | assumption | exact hs_same _ _ _ | exact (hs_ne _ _ (by first | assumption | decide | omega)).trans (by first | assumption | exact hs_same _ _ _ | exact (hs_ne _ _ (by first | assumption | decide | omega)).trans (by first | assumption | exact hs_same _ _ _ | exact (hs_ne _ _ (by first | assumption | decide | omega)).trans (by first | assumption | exact hs_same _ _ _ | exact (hs_ne _ _ (by first | assumption | decide | omega)).trans (by first | assumption | exact hs_same _ _ _))))) rfl rfl ?_
            refine gs_k (nI 40) 202 a_X5_behind_200 (by decide +kernel) rfl ?_
            refine gs_n 203 a_X5_behind_202 rfl ?_
            refine gs_n 204 a_X5_behind_203 rfl ?_
            refine gs_n 205 a_X5_behind_204 rfl ?_
            refine gs_n 206 a_X5_behind_205 rfl ?_
            refine gs_k (nI 14) 208 a_X5_behind_206 (by decide +kernel) rfl ?_
            refine gs_n 209 a_X5_behind_208 rfl ?_
            rw [pk_mul, nI_add, pk_sub (by omega), show 40 * j + i - 14 = 40 * j + (i - 14) by omega]
            refine gs_ba (40 * j + (i - 14)) 210 a_X5_behind_209 (by first | assumption | exact hs_same _ _ _ | exact (hs_ne _ _ (by first | assumption | decide | omega)).trans (by first | assumption | exact hs_same _ _ _ | exact (hs_ne _ _ (by first | assumption | decide | omega)).trans (by first | assumption | exact hs_same _ _ _ | exact (hs_ne _ _ (by first | assumption | decide | omega)).trans (by first | assumption | exact hs_same _ _ _ | exact (hs_ne _ _ (by first | assumption | decide | omega)).trans (by first | assumption | exact hs_same _ _ _))))) rfl (by omega) (by omega) rfl ?_
            rw [g7 (i - 14) (by omega)]
            refine gs_k (nI 255) 213 a_X5_behind_210 (by decide +kernel) rfl ?_
            refine gs_n 214 a_X5_behind_213 rfl ?_
            rw [sg_and (hb3 _ (getD_memN (by omega)))]
            refine gs_iret a_X5_behind_214 rfl rfl ?_
            rfl
          · have c176 : ¬ nI 14 ≤ nI i := c176
            rw [nI_leI (by omega) (by omega)] at c176
            rw [gd_l (by rw [be_len]; omega), show i - 4 - 2 - 1 - 1 - 2 = i - 10 by omega]
            refine gs_n 180 a_X5_behind_179 rfl ?_
            refine gs_get 183 a_X5_behind_180 f_5_22 (by first | assumption | exact hs_same _ _ _ | exact (hs_ne _ _ (by first | assumption | decide | omega)).trans (by first | assumption | exact hs_same _ _ _ | exact (hs_ne _ _ (by first | assumption | decide | omega)).trans (by first | assumption | exact hs_same _ _ _ | exact (hs_ne _ _ (by first | assumption | decide | omega)).trans (by first | assumption | exact hs_same _ _ _ | exact (hs_ne _ _ (by first | assumption | decide | omega)).trans (by first | assumption | exact hs_same _ _ _))))) rfl rfl ?_
            refine gs_n 184 a_X5_behind_183 rfl ?_
            refine gs_ia j 185 a_X5_behind_184 (by first | assumption | exact hs_same _ _ _ | exact (hs_ne _ _ (by first | assumption | decide | omega)).trans (by first | assumption | exact hs_same _ _ _ | exact (hs_ne _ _ (by first | assumption | decide | omega)).trans (by first | assumption | exact hs_same _ _ _ | exact (hs_ne _ _ (by first | assumption | decide | omega)).trans (by first | assumption | exact hs_same _ _ _ | exact (hs_ne _ _ (by first | assumption | decide | omega)).trans (by first | assumption | exact hs_same _ _ _))))) rfl (by omega) (by omega) rfl ?_
            rw [g4]
            refine gs_k (nI 4) 186 a_X5_behind_185 (by decide +kernel) rfl ?_
            refine gs_n 187 a_X5_behind_186 rfl ?_
            refine gs_k (nI 10) 189 a_X5_behind_187 (by decide +kernel) rfl ?_
            refine gs_n 190 a_X5_behind_189 rfl ?_
            rw [pk_sub (by omega)]
            refine gs_cs 193 a_X5_behind_190 k_5_214 q_X5_byteIn (r_byteIn (nI (eA e)) (show 4 ≤ 4 by omega) (show i - 10 < 4 by omega)) rfl rfl rfl (by simp [Value.category]) rfl (fun v h1 hp => ?_)
            cases hp
            refine gs_n 214 a_X5_behind_193 rfl ?_
            refine gs_iret a_X5_behind_214 rfl rfl ?_
            rfl
        · have c153 : ¬ nI 10 ≤ nI i := c153
          rw [nI_leI (by omega) (by omega)] at c153
          rw [gd_l (by rw [be_len]; omega), show i - 4 - 2 - 1 - 1 = i - 8 by omega]
          refine gs_n 157 a_X5_behind_156 rfl ?_
          refine gs_get 160 a_X5_behind_157 f_5_19 (by first | assumption | exact hs_same _ _ _ | exact (hs_ne _ _ (by first | assumption | decide | omega)).trans (by first | assumption | exact hs_same _ _ _ | exact (hs_ne _ _ (by first | assumption | decide | omega)).trans (by first | assumption | exact hs_same _ _ _ | exact (hs_ne _ _ (by first | assumption | decide | omega)).trans (by first | assumption | exact hs_same _ _ _ | exact (hs_ne _ _ (by first | assumption | decide | omega)).trans (by first | assumption | exact hs_same _ _ _))))) rfl rfl ?_
          refine gs_n 161 a_X5_behind_160 rfl ?_
          refine gs_ia j 162 a_X5_behind_161 (by first | assumption | exact hs_same _ _ _ | exact (hs_ne _ _ (by first | assumption | decide | omega)).trans (by first | assumption | exact hs_same _ _ _ | exact (hs_ne _ _ (by first | assumption | decide | omega)).trans (by first | assumption | exact hs_same _ _ _ | exact (hs_ne _ _ (by first | assumption | decide | omega)).trans (by first | assumption | exact hs_same _ _ _ | exact (hs_ne _ _ (by first | assumption | decide | omega)).trans (by first | assumption | exact hs_same _ _ _))))) rfl (by omega) (by omega) rfl ?_
          rw [g3]
          refine gs_k (nI 2) 163 a_X5_behind_162 (by decide +kernel) rfl ?_
          refine gs_n 164 a_X5_behind_163 rfl ?_
          refine gs_k (nI 8) 166 a_X5_behind_164 (by decide +kernel) rfl ?_
          refine gs_n 167 a_X5_behind_166 rfl ?_
          rw [pk_sub (by omega)]
          refine gs_cs 170 a_X5_behind_167 k_5_214 q_X5_byteIn (r_byteIn (nI (eE e)) (show 2 ≤ 4 by omega) (show i - 8 < 2 by omega)) rfl rfl rfl (by simp [Value.category]) rfl (fun v h1 hp => ?_)
          cases hp
          refine gs_n 214 a_X5_behind_170 rfl ?_
          refine gs_iret a_X5_behind_214 rfl rfl ?_
          rfl
      · have c125 : ¬ nI 8 ≤ nI i := c125
        rw [nI_leI (by omega) (by omega)] at c125
        refine gs_n 129 a_X5_behind_128 rfl ?_
        refine gs_k (nI 6) 131 a_X5_behind_129 (by decide +kernel) rfl ?_
        refine gs_ic 143 134 a_X5_behind_131 rfl rfl (fun c131 => ?_) (fun c131 => ?_)
        · have c131 : ¬ nI i = nI 6 := c131
          rw [nI_eq (by omega) (by omega)] at c131
          rw [gd_r (by rw [be_len]; omega), be_len, gd_l (by rw [be_len]; omega), show i - 4 - 2 - 1 = 0 by omega, be1 (by have := hok.2.2.1; omega)]
          refine gs_n 144 a_X5_behind_143 rfl ?_
          refine gs_get 147 a_X5_behind_144 f_5_16 (by first | assumption | exact hs_same _ _ _ | exact (hs_ne _ _ (by first | assumption | decide | omega)).trans (by first | assumption | exact hs_same _ _ _ | exact (hs_ne _ _ (by first | assumption | decide | omega)).trans (by first | assumption | exact hs_same _ _ _ | exact (hs_ne _ _ (by first | assumption | decide | omega)).trans (by first | assumption | exact hs_same _ _ _ | exact (hs_ne _ _ (by first | assumption | decide | omega)).trans (by first | assumption | exact hs_same _ _ _))))) rfl rfl ?_
          refine gs_n 148 a_X5_behind_147 rfl ?_
          refine gs_ia j 149 a_X5_behind_148 (by first | assumption | exact hs_same _ _ _ | exact (hs_ne _ _ (by first | assumption | decide | omega)).trans (by first | assumption | exact hs_same _ _ _ | exact (hs_ne _ _ (by first | assumption | decide | omega)).trans (by first | assumption | exact hs_same _ _ _ | exact (hs_ne _ _ (by first | assumption | decide | omega)).trans (by first | assumption | exact hs_same _ _ _ | exact (hs_ne _ _ (by first | assumption | decide | omega)).trans (by first | assumption | exact hs_same _ _ _))))) rfl (by omega) (by omega) rfl ?_
          rw [g2]
          refine gs_iret a_X5_behind_149 rfl rfl ?_
          rfl
        · have c131 : nI i = nI 6 := Classical.byContradiction c131
          rw [nI_eq (by omega) (by omega)] at c131
          rw [gd_l (by rw [be_len]; omega), show i - 4 - 2 = 0 by omega, be1 (by have := hok.2.1; omega)]
          refine gs_n 135 a_X5_behind_134 rfl ?_
          refine gs_get 138 a_X5_behind_135 f_5_13 (by first | assumption | exact hs_same _ _ _ | exact (hs_ne _ _ (by first | assumption | decide | omega)).trans (by first | assumption | exact hs_same _ _ _ | exact (hs_ne _ _ (by first | assumption | decide | omega)).trans (by first | assumption | exact hs_same _ _ _ | exact (hs_ne _ _ (by first | assumption | decide | omega)).trans (by first | assumption | exact hs_same _ _ _ | exact (hs_ne _ _ (by first | assumption | decide | omega)).trans (by first | assumption | exact hs_same _ _ _))))) rfl rfl ?_
          refine gs_n 139 a_X5_behind_138 rfl ?_
          refine gs_ia j 140 a_X5_behind_139 (by first | assumption | exact hs_same _ _ _ | exact (hs_ne _ _ (by first | assumption | decide | omega)).trans (by first | assumption | exact hs_same _ _ _ | exact (hs_ne _ _ (by first | assumption | decide | omega)).trans (by first | assumption | exact hs_same _ _ _ | exact (hs_ne _ _ (by first | assumption | decide | omega)).trans (by first | assumption | exact hs_same _ _ _ | exact (hs_ne _ _ (by first | assumption | decide | omega)).trans (by first | assumption | exact hs_same _ _ _))))) rfl (by omega) (by omega) rfl ?_
          rw [g1]
          refine gs_n 149 a_X5_behind_140 rfl ?_
          refine gs_iret a_X5_behind_149 rfl rfl ?_
          rfl
    · have c105 : ¬ nI 6 ≤ nI i := c105
      rw [nI_leI (by omega) (by omega)] at c105
      rw [gd_l (by rw [be_len]; omega)]
      refine gs_n 109 a_X5_behind_108 rfl ?_
      refine gs_get 112 a_X5_behind_109 f_5_25 (by first | assumption | exact hs_same _ _ _ | exact (hs_ne _ _ (by first | assumption | decide | omega)).trans (by first | assumption | exact hs_same _ _ _ | exact (hs_ne _ _ (by first | assumption | decide | omega)).trans (by first | assumption | exact hs_same _ _ _ | exact (hs_ne _ _ (by first | assumption | decide | omega)).trans (by first | assumption | exact hs_same _ _ _ | exact (hs_ne _ _ (by first | assumption | decide | omega)).trans (by first | assumption | exact hs_same _ _ _))))) rfl rfl ?_
      refine gs_n 113 a_X5_behind_112 rfl ?_
      refine gs_ia j 114 a_X5_behind_113 (by first | assumption | exact hs_same _ _ _ | exact (hs_ne _ _ (by first | assumption | decide | omega)).trans (by first | assumption | exact hs_same _ _ _ | exact (hs_ne _ _ (by first | assumption | decide | omega)).trans (by first | assumption | exact hs_same _ _ _ | exact (hs_ne _ _ (by first | assumption | decide | omega)).trans (by first | assumption | exact hs_same _ _ _ | exact (hs_ne _ _ (by first | assumption | decide | omega)).trans (by first | assumption | exact hs_same _ _ _))))) rfl (by omega) (by omega) rfl ?_
      rw [g5]
      refine gs_k (nI 2) 115 a_X5_behind_114 (by decide +kernel) rfl ?_
      refine gs_n 116 a_X5_behind_115 rfl ?_
      refine gs_k (nI 4) 117 a_X5_behind_116 (by decide +kernel) rfl ?_
      refine gs_n 118 a_X5_behind_117 rfl ?_
      rw [pk_sub (by omega)]
      refine gs_cs 121 a_X5_behind_118 k_5_214 q_X5_byteIn (r_byteIn (nI (eB e)) (show 2 ≤ 4 by omega) (show i - 4 < 2 by omega)) rfl rfl rfl (by simp [Value.category]) rfl (fun v h1 hp => ?_)
      cases hp
      refine gs_iret a_X5_behind_121 rfl rfl ?_
      rfl
  · have c10 : nI (eF e) = nI P := Classical.byContradiction c10
    rw [nI_eq (by have := hok.1; omega) (by omega)] at c10
    rw [encO_B c10]
    unfold sz at hi2
    rw [if_pos c10] at hi2
    unfold encB bodyB
    rw [gd_r (by rw [be_len]; omega), be_len]
    refine gs_n 14 a_X5_behind_13 rfl ?_
    refine gs_k (nI 4) 15 a_X5_behind_14 (by decide +kernel) rfl ?_
    refine gs_ic 27 18 a_X5_behind_15 rfl rfl (fun c15 => ?_) (fun c15 => ?_)
    · have c15 : ¬ nI i = nI 4 := c15
      rw [nI_eq (by omega) (by omega)] at c15
      rw [gd_r (by rw [be_len]; omega), be_len]
      refine gs_n 28 a_X5_behind_27 rfl ?_
      refine gs_k (nI 5) 29 a_X5_behind_28 (by decide +kernel) rfl ?_
      refine gs_ic 41 32 a_X5_behind_29 rfl rfl (fun c29 => ?_) (fun c29 => ?_)
      · have c29 : ¬ nI i = nI 5 := c29
        rw [nI_eq (by omega) (by omega)] at c29
        rw [gd_r (by rw [be_len]; omega), be_len]
        refine gs_n 42 a_X5_behind_41 rfl ?_
        refine gs_k (nI 8) 44 a_X5_behind_42 (by decide +kernel) rfl ?_
        refine gs_ic 64 47 a_X5_behind_44 rfl rfl (fun c44 => ?_) (fun c44 => ?_)
        · have c44 : nI 8 ≤ nI i := c44
          rw [nI_leI (by omega) (by omega)] at c44
          rw [gd_r (by rw [be_len]; omega), be_len]
          refine gs_n 65 a_X5_behind_64 rfl ?_
          refine gs_k (nI 12) 67 a_X5_behind_65 (by decide +kernel) rfl ?_
          refine gs_ic 87 70 a_X5_behind_67 rfl rfl (fun c67 => ?_) (fun c67 => ?_)
          · have c67 : nI 12 ≤ nI i := c67
            rw [nI_leI (by omega) (by omega)] at c67
            rw [gd_r (by rw [be_len]; omega), be_len, show i - 4 - 1 - 1 - 2 - 4 = i - 12 by omega]
            refine gs_n 88 a_X5_behind_87 rfl ?_
            refine gs_get 91 a_X5_behind_88 f_5_25 (by first | assumption | exact hs_same _ _ _ | exact (hs_ne _ _ (by first | assumption | decide | omega)).trans (by first | assumption | exact hs_same _ _ _ | exact (hs_ne _ _ (by first | assumption | decide | omega)).trans (by first | assumption | exact hs_same _ _ _ | exact (hs_ne _ _ (by first | assumption | decide | omega)).trans (by first | assumption | exact hs_same _ _ _ | exact (hs_ne _ _ (by first | assumption | decide | omega)).trans (by first | assumption | exact hs_same _ _ _))))) rfl rfl ?_
            refine gs_n 92 a_X5_behind_91 rfl ?_
            refine gs_ia j 93 a_X5_behind_92 (by first | assumption | exact hs_same _ _ _ | exact (hs_ne _ _ (by first | assumption | decide | omega)).trans (by first | assumption | exact hs_same _ _ _ | exact (hs_ne _ _ (by first | assumption | decide | omega)).trans (by first | assumption | exact hs_same _ _ _ | exact (hs_ne _ _ (by first | assumption | decide | omega)).trans (by first | assumption | exact hs_same _ _ _ | exact (hs_ne _ _ (by first | assumption | decide | omega)).trans (by first | assumption | exact hs_same _ _ _))))) rfl (by omega) (by omega) rfl ?_
            rw [g5]
            refine gs_k (nI 4) 94 a_X5_behind_93 (by decide +kernel) rfl ?_
            refine gs_n 95 a_X5_behind_94 rfl ?_
            refine gs_k (nI 12) 97 a_X5_behind_95 (by decide +kernel) rfl ?_
            refine gs_n 98 a_X5_behind_97 rfl ?_
            rw [pk_sub (by omega)]
            refine gs_cs 101 a_X5_behind_98 k_5_214 q_X5_byteIn (r_byteIn (nI (eB e)) (show 4 ≤ 4 by omega) (show i - 12 < 4 by omega)) rfl rfl rfl (by simp [Value.category]) rfl (fun v h1 hp => ?_)
            cases hp
            refine gs_iret a_X5_behind_101 rfl rfl ?_
            rfl
          · have c67 : ¬ nI 12 ≤ nI i := c67
            rw [nI_leI (by omega) (by omega)] at c67
            rw [gd_l (by rw [be_len]; omega), show i - 4 - 1 - 1 - 2 = i - 8 by omega]
            refine gs_n 71 a_X5_behind_70 rfl ?_
            refine gs_get 74 a_X5_behind_71 f_5_22 (by first | assumption | exact hs_same _ _ _ | exact (hs_ne _ _ (by first | assumption | decide | omega)).trans (by first | assumption | exact hs_same _ _ _ | exact (hs_ne _ _ (by first | assumption | decide | omega)).trans (by first | assumption | exact hs_same _ _ _ | exact (hs_ne _ _ (by first | assumption | decide | omega)).trans (by first | assumption | exact hs_same _ _ _ | exact (hs_ne _ _ (by first | assumption | decide | omega)).trans (by first | assumption | exact hs_same _ _ _))))) rfl rfl ?_
            refine gs_n 75 a_X5_behind_74 rfl ?_
            refine gs_ia j 76 a_X5_behind_75 (by first | assumption | exact hs_same _ _ _ | exact (hs_ne _ _ (by first | assumption | decide | omega)).trans (by first | assumption | exact hs_same _ _ _ | exact (hs_ne _ _ (by first | assumption | decide | omega)).trans (by first | assumption | exact hs_same _ _ _ | exact (hs_ne _ _ (by first | assumption | decide | omega)).trans (by first | assumption | exact hs_same _ _ _ | exact (hs_ne _ _ (by first | assumption | decide | omega)).trans (by first | assumption | exact hs_same _ _ _))))) rfl (by omega) (by omega) rfl ?_
            rw [g4]
            refine gs_k (nI 4) 77 a_X5_behind_76 (by decide +kernel) rfl ?_
            refine gs_n 78 a_X5_behind_77 rfl ?_
            refine gs_k (nI 8) 80 a_X5_behind_78 (by decide +kernel) rfl ?_
            refine gs_n 81 a_X5_behind_80 rfl ?_
            rw [pk_sub (by omega)]
            refine gs_cs 84 a_X5_behind_81 k_5_214 q_X5_byteIn (r_byteIn (nI (eA e)) (show 4 ≤ 4 by omega) (show i - 8 < 4 by omega)) rfl rfl rfl (by simp [Value.category]) rfl (fun v h1 hp => ?_)
            cases hp
            refine gs_n 101 a_X5_behind_84 rfl ?_
            refine gs_iret a_X5_behind_101 rfl rfl ?_
            rfl
        · have c44 : ¬ nI 8 ≤ nI i := c44
          rw [nI_leI (by omega) (by omega)] at c44
          rw [gd_l (by rw [be_len]; omega), show i - 4 - 1 - 1 = i - 6 by omega]
          refine gs_n 48 a_X5_behind_47 rfl ?_
          refine gs_get 51 a_X5_behind_48 f_5_19 (by first | assumption | exact hs_same _ _ _ | exact (hs_ne _ _ (by first | assumption | decide | omega)).trans (by first | assumption | exact hs_same _ _ _ | exact (hs_ne _ _ (by first | assumption | decide | omega)).trans (by first | assumption | exact hs_same _ _ _ | exact (hs_ne _ _ (by first | assumption | decide | omega)).trans (by first | assumption | exact hs_same _ _ _ | exact (hs_ne _ _ (by first | assumption | decide | omega)).trans (by first | assumption | exact hs_same _ _ _))))) rfl rfl ?_
          refine gs_n 52 a_X5_behind_51 rfl ?_
          refine gs_ia j 53 a_X5_behind_52 (by first | assumption | exact hs_same _ _ _ | exact (hs_ne _ _ (by first | assumption | decide | omega)).trans (by first | assumption | exact hs_same _ _ _ | exact (hs_ne _ _ (by first | assumption | decide | omega)).trans (by first | assumption | exact hs_same _ _ _ | exact (hs_ne _ _ (by first | assumption | decide | omega)).trans (by first | assumption | exact hs_same _ _ _ | exact (hs_ne _ _ (by first | assumption | decide | omega)).trans (by first | assumption | exact hs_same _ _ _))))) rfl (by omega) (by omega) rfl ?_
          rw [g3]
          refine gs_k (nI 2) 54 a_X5_behind_53 (by decide +kernel) rfl ?_
          refine gs_n 55 a_X5_behind_54 rfl ?_
          refine gs_k (nI 6) 57 a_X5_behind_55 (by decide +kernel) rfl ?_
          refine gs_n 58 a_X5_behind_57 rfl ?_
          rw [pk_sub (by omega)]
          refine gs_cs 61 a_X5_behind_58 k_5_214 q_X5_byteIn (r_byteIn (nI (eE e)) (show 2 ≤ 4 by omega) (show i - 6 < 2 by omega)) rfl rfl rfl (by simp [Value.category]) rfl (fun v h1 hp => ?_)
          cases hp
          refine gs_n 101 a_X5_behind_61 rfl ?_
          refine gs_iret a_X5_behind_101 rfl rfl ?_
          rfl
      · have c29 : nI i = nI 5 := Classical.byContradiction c29
        rw [nI_eq (by omega) (by omega)] at c29
        rw [gd_l (by rw [be_len]; omega), show i - 4 - 1 = 0 by omega, be1 (by have := hok.2.2.1; omega)]
        refine gs_n 33 a_X5_behind_32 rfl ?_
        refine gs_get 36 a_X5_behind_33 f_5_16 (by first | assumption | exact hs_same _ _ _ | exact (hs_ne _ _ (by first | assumption | decide | omega)).trans (by first | assumption | exact hs_same _ _ _ | exact (hs_ne _ _ (by first | assumption | decide | omega)).trans (by first | assumption | exact hs_same _ _ _ | exact (hs_ne _ _ (by first | assumption | decide | omega)).trans (by first | assumption | exact hs_same _ _ _ | exact (hs_ne _ _ (by first | assumption | decide | omega)).trans (by first | assumption | exact hs_same _ _ _))))) rfl rfl ?_
        refine gs_n 37 a_X5_behind_36 rfl ?_
        refine gs_ia j 38 a_X5_behind_37 (by first | assumption | exact hs_same _ _ _ | exact (hs_ne _ _ (by first | assumption | decide | omega)).trans (by first | assumption | exact hs_same _ _ _ | exact (hs_ne _ _ (by first | assumption | decide | omega)).trans (by first | assumption | exact hs_same _ _ _ | exact (hs_ne _ _ (by first | assumption | decide | omega)).trans (by first | assumption | exact hs_same _ _ _ | exact (hs_ne _ _ (by first | assumption | decide | omega)).trans (by first | assumption | exact hs_same _ _ _))))) rfl (by omega) (by omega) rfl ?_
        rw [g2]
        refine gs_n 101 a_X5_behind_38 rfl ?_
        refine gs_iret a_X5_behind_101 rfl rfl ?_
        rfl
    · have c15 : nI i = nI 4 := Classical.byContradiction c15
      rw [nI_eq (by omega) (by omega)] at c15
      rw [gd_l (by rw [be_len]; omega), show i - 4 = 0 by omega, be1 (by have := hok.2.1; omega)]
      refine gs_n 19 a_X5_behind_18 rfl ?_
      refine gs_get 22 a_X5_behind_19 f_5_13 (by first | assumption | exact hs_same _ _ _ | exact (hs_ne _ _ (by first | assumption | decide | omega)).trans (by first | assumption | exact hs_same _ _ _ | exact (hs_ne _ _ (by first | assumption | decide | omega)).trans (by first | assumption | exact hs_same _ _ _ | exact (hs_ne _ _ (by first | assumption | decide | omega)).trans (by first | assumption | exact hs_same _ _ _ | exact (hs_ne _ _ (by first | assumption | decide | omega)).trans (by first | assumption | exact hs_same _ _ _))))) rfl rfl ?_
      refine gs_n 23 a_X5_behind_22 rfl ?_
      refine gs_ia j 24 a_X5_behind_23 (by first | assumption | exact hs_same _ _ _ | exact (hs_ne _ _ (by first | assumption | decide | omega)).trans (by first | assumption | exact hs_same _ _ _ | exact (hs_ne _ _ (by first | assumption | decide | omega)).trans (by first | assumption | exact hs_same _ _ _ | exact (hs_ne _ _ (by first | assumption | decide | omega)).trans (by first | assumption | exact hs_same _ _ _ | exact (hs_ne _ _ (by first | assumption | decide | omega)).trans (by first | assumption | exact hs_same _ _ _))))) rfl (by omega) (by omega) rfl ?_
      rw [g1]
      refine gs_n 101 a_X5_behind_24 rfl ?_
      refine gs_iret a_X5_behind_101 rfl rfl ?_
      rfl
theorem take_snocN {l : List Nat} {j : Nat} (hj : j < l.length) : l.take (j + 1) = l.take j ++ [l.getD j 0] := by
  rw [List.take_add_one]
  simp [List.getD, List.getElem?_eq_getElem hj]
theorem l_byteAt {e : En} {j i : Nat} (hj : j < 4200) (hi : i < 4) (hA : AtA ar j e) (hok : okM P e) (hP : P ≤ 8) (w : MW h (P, a1, a2, a3, a4, a5, a7, a8, a9, a10, a11, a12, a5') ar) : ∀ (r k : Nat), k + r = (bodyO P e).length →
    gs none (d + 2) mD_X5_byteAt (18, [(4, .int (nI (4 + k))), (3, .int (sumI ((bodyO P e).take k))), (0, .ref 96), (1, .int (nI j)), (2, .int (nI i))], [], h) (fun u => u = (some (.int (nI ((encO P e).getD i 0))), h)) := by
  have w0 := w.1
  simp only [mcell] at w0
  have hbl := bodyO_len hok
  have hs54 := sz_le hok
  have hs14 : 14 ≤ sz P e := by unfold sz; split <;> omega
  intro r
  induction r with
  | zero =>
    intro k hk
    refine gs_n 20 a_X5_byteAt_18 rfl ?_
    refine gs_n 21 a_X5_byteAt_20 rfl ?_
    refine gs_n 22 a_X5_byteAt_21 rfl ?_
    refine gs_cv 25 a_X5_byteAt_22 k_5_121 q_X5_sizeOf (r_sizeOf j hj hA hok hP w rfl) rfl rfl rfl (by simp [Value.category]) (by first | assumption | exact hs_same _ _ _ | exact (hs_ne _ _ (by first | assumption | decide | omega)).trans (by first | assumption | exact hs_same _ _ _ | exact (hs_ne _ _ (by first | assumption | decide | omega)).trans (by first | assumption | exact hs_same _ _ _ | exact (hs_ne _ _ (by first | assumption | decide | omega)).trans (by first | assumption | exact hs_same _ _ _ | exact (hs_ne _ _ (by first | assumption | decide | omega)).trans (by first | assumption | exact hs_same _ _ _))))) rfl (fun v h1 hp => ?_)
    cases hp
    refine gs_ic 47 28 a_X5_byteAt_25 rfl rfl (fun c => ?_) (fun c => ?_)
    · rw [List.take_of_length_le (by omega)]
      refine gs_n 48 a_X5_byteAt_47 rfl ?_
      refine gs_k (nI 4) 49 a_X5_byteAt_48 (by decide +kernel) rfl ?_
      refine gs_n 50 a_X5_byteAt_49 rfl ?_
      refine gs_cs 53 a_X5_byteAt_50 k_5_214 q_X5_byteIn (r_byteIn (sumI (bodyO P e)) (show 4 ≤ 4 by omega) hi) rfl rfl rfl (by simp [Value.category]) rfl (fun v h1 hp => ?_)
      cases hp
      refine gs_iret a_X5_byteAt_53 rfl rfl ?_
      unfold encO
      rw [gd_l (by rw [be_len]; omega)]
    · exact absurd (nI_le (by omega) (by omega)) c
  | succ r ih =>
    intro k hk
    refine gs_n 20 a_X5_byteAt_18 rfl ?_
    refine gs_n 21 a_X5_byteAt_20 rfl ?_
    refine gs_n 22 a_X5_byteAt_21 rfl ?_
    refine gs_cv 25 a_X5_byteAt_22 k_5_121 q_X5_sizeOf (r_sizeOf j hj hA hok hP w rfl) rfl rfl rfl (by simp [Value.category]) (by first | assumption | exact hs_same _ _ _ | exact (hs_ne _ _ (by first | assumption | decide | omega)).trans (by first | assumption | exact hs_same _ _ _ | exact (hs_ne _ _ (by first | assumption | decide | omega)).trans (by first | assumption | exact hs_same _ _ _ | exact (hs_ne _ _ (by first | assumption | decide | omega)).trans (by first | assumption | exact hs_same _ _ _ | exact (hs_ne _ _ (by first | assumption | decide | omega)).trans (by first | assumption | exact hs_same _ _ _))))) rfl (fun v h1 hp => ?_)
    cases hp
    refine gs_ic 47 28 a_X5_byteAt_25 rfl rfl (fun c => ?_) (fun c => ?_)
    · exact absurd c (nI_ge (by omega) (by omega))
    · refine gs_n 29 a_X5_byteAt_28 rfl ?_
      refine gs_k (nI 31) 31 a_X5_byteAt_29 (by decide +kernel) rfl ?_
      refine gs_n 32 a_X5_byteAt_31 rfl ?_
      refine gs_n 33 a_X5_byteAt_32 rfl ?_
      refine gs_n 34 a_X5_byteAt_33 rfl ?_
      refine gs_n 36 a_X5_byteAt_34 rfl ?_
      refine gs_cv 39 a_X5_byteAt_36 k_5_217 q_X5_behind (r_behind hj (show 4 ≤ 4 + k by omega) (by omega) hA hok hP w) rfl rfl rfl (by simp [Value.category]) (by first | assumption | exact hs_same _ _ _ | exact (hs_ne _ _ (by first | assumption | decide | omega)).trans (by first | assumption | exact hs_same _ _ _ | exact (hs_ne _ _ (by first | assumption | decide | omega)).trans (by first | assumption | exact hs_same _ _ _ | exact (hs_ne _ _ (by first | assumption | decide | omega)).trans (by first | assumption | exact hs_same _ _ _ | exact (hs_ne _ _ (by first | assumption | decide | omega)).trans (by first | assumption | exact hs_same _ _ _))))) rfl (fun v h1 hp => ?_)
      cases hp
      rw [encO_4]
      refine gs_n 40 a_X5_byteAt_39 rfl ?_
      refine gs_n 41 a_X5_byteAt_40 rfl ?_
      first | refine gs_inc _ 44 a_X5_byteAt_41 rfl (Nat.le_of_ble_eq_true rfl) rfl ?_ | refine gs_n 44 a_X5_byteAt_41 rfl ?_
      refine gs_n 18 a_X5_byteAt_44 rfl ?_
      refine gs_w [(4, .int (nI (4 + k + 1))), (3, .int (sumI ((bodyO P e).take k) * nI 31 + nI ((bodyO P e).getD k 0))), (0, .ref 96), (1, .int (nI j)), (2, .int (nI i))] (by simp [ix_nd]) (by intro x hx; simp only [List.mem_cons, List.not_mem_nil, or_false] at hx; rcases hx with rfl | rfl | rfl | rfl | rfl <;> rfl) ?_
      rw [← sumI_snoc, ← take_snocN (by omega)]
      exact ih (k + 1) (by omega)
theorem r_byteAt {e : En} {j i : Nat} (hj : j < 4200) (hi : i < sz P e) (hA : AtA ar j e) (hok : okM P e) (hP : P ≤ 8) (w : MW h (P, a1, a2, a3, a4, a5, a7, a8, a9, a10, a11, a12, a5') ar) : ev (d + 3) n_X5_byteAt [.ref 96, .int (nI j), .int (nI i)] h (fun u => u = (some (.int (nI ((encO P e).getD i 0))), h)) := by
  have hs54 := sz_le hok
  have w0 := w.1
  simp only [mcell] at w0
  refine ev_of q_X5_byteAt (Nat.le_of_ble_eq_true rfl) ?_
  refine gs_n 1 a_X5_byteAt_0 rfl ?_
  refine gs_k (nI 4) 2 a_X5_byteAt_1 (by decide +kernel) rfl ?_
  refine gs_ic 12 5 a_X5_byteAt_2 rfl rfl (fun c2 => ?_) (fun c2 => ?_)
  · have c2 : nI i < nI 4 := c2
    rw [nI_ltI (by omega) (by omega)] at c2
    refine gs_k (nI 17) 14 a_X5_byteAt_12 (by decide +kernel) rfl ?_
    refine gs_n 15 a_X5_byteAt_14 rfl ?_
    refine gs_k (nI 4) 16 a_X5_byteAt_15 (by decide +kernel) rfl ?_
    refine gs_n 18 a_X5_byteAt_16 rfl ?_
    refine gs_w [(4, .int (nI (4 + 0))), (3, .int (sumI ((bodyO P e).take 0))), (0, .ref 96), (1, .int (nI j)), (2, .int (nI i))] (by simp [ix_nd]) (by intro x hx; simp only [List.mem_cons, List.not_mem_nil, or_false] at hx; rcases hx with rfl | rfl | rfl | rfl | rfl <;> rfl) ?_
    exact l_byteAt hj c2 hA hok hP w (bodyO P e).length 0 (by omega)
  · have c2 : ¬ nI i < nI 4 := c2
    rw [nI_ltI (by omega) (by omega)] at c2
    refine gs_n 6 a_X5_byteAt_5 rfl ?_
    refine gs_n 7 a_X5_byteAt_6 rfl ?_
    refine gs_n 8 a_X5_byteAt_7 rfl ?_
    refine gs_cv 11 a_X5_byteAt_8 k_5_217 q_X5_behind (r_behind hj (by omega) hi hA hok hP w) rfl rfl rfl (by simp [Value.category]) (by first | assumption | exact hs_same _ _ _ | exact (hs_ne _ _ (by first | assumption | decide | omega)).trans (by first | assumption | exact hs_same _ _ _ | exact (hs_ne _ _ (by first | assumption | decide | omega)).trans (by first | assumption | exact hs_same _ _ _ | exact (hs_ne _ _ (by first | assumption | decide | omega)).trans (by first | assumption | exact hs_same _ _ _ | exact (hs_ne _ _ (by first | assumption | decide | omega)).trans (by first | assumption | exact hs_same _ _ _))))) rfl (fun v h1 hp => ?_)
    cases hp
    refine gs_iret a_X5_byteAt_11 rfl rfl ?_
    rfl
theorem bytesF_O {f : Nat} (hf : f ≤ P) : bytesF P torn tE X f = (fl f X).flatMap (encO P) ++ (if eF tE = f then (encO P tE).take torn else []) := by
  unfold bytesF
  by_cases z : f < P
  · rw [if_pos z]
    congr 1
    · have : ∀ l : List En, (∀ e ∈ l, eF e = f) → l.flatMap encP = l.flatMap (encO P) := by
        intro l
        induction l with
        | nil => intro _; rfl
        | cons a l ih =>
          intro hl
          rw [List.flatMap_cons, List.flatMap_cons, ih (fun e he => hl e (List.mem_cons_of_mem _ he)), encO_P (by have := hl a List.mem_cons_self; omega)]
      exact this _ (fun e he => (fl_mem he).2)
    · unfold tnO
      by_cases y : eF tE = f
      · rw [if_pos ⟨z, y⟩, if_pos y, encO_P (by omega)]
      · rw [if_neg (fun r => y r.2), if_neg y]
  · obtain rfl : f = P := by omega
    rw [if_neg z]
    congr 1
    · have : ∀ l : List En, (∀ e ∈ l, eF e = f) → l.flatMap encB = l.flatMap (encO f) := by
        intro l
        induction l with
        | nil => intro _; rfl
        | cons a l ih =>
          intro hl
          rw [List.flatMap_cons, List.flatMap_cons, ih (fun e he => hl e (List.mem_cons_of_mem _ he)), encO_B (hl a List.mem_cons_self)]
      exact this _ (fun e he => (fl_mem he).2)
    · unfold btO
      by_cases y : eF tE = f
      · rw [if_pos y, if_pos y, encO_B y]
      · rw [if_neg y, if_neg y]
theorem getD_tk {l : List Nat} {i j : Nat} (hi : i < j) : (l.take j).getD i 0 = l.getD i 0 := by
  simp [List.getD, List.getElem?_take, hi]
theorem l_byteOf {f i : Nat} {a6 : Nat} (hf : f ≤ P) (hP : P ≤ 8) (hi : i < (bytesF P torn tE X f).length) (hi2 : i < 2 ^ 30) (hlen : X.length < 4200) (ht : 0 < torn → okE P tE ∧ torn < sz P tE) (hto : 0 < torn → AtA ar X.length tE) (hE : EA P ar X) (w : MW h (P, a1, a2, a3, a4, a5, X.length, a7, a8, a9, a10, a11, a12) ar) : ∀ (r j : Nat), j + r = X.length → ((fl f (X.take j)).flatMap (encO P)).length ≤ i →
    gs none (d + 3) mD_X5_byteOf (32, [(4, .int (nI j)), (3, .int (nI (i - ((fl f (X.take j)).flatMap (encO P)).length))), (0, .ref 96), (1, .int (nI f))], [], h) (fun u => u = (some (.int (nI ((bytesF P torn tE X f).getD i 0))), h)) := by
  obtain ⟨hl, hok, ha⟩ := hE
  obtain ⟨w0, w1, -⟩ := id w
  simp only [mcell] at w0
  intro r
  induction r with
  | zero =>
    intro j hj hb
    rw [List.take_of_length_le (show X.length ≤ j by omega)] at hb
    rw [List.take_of_length_le (show X.length ≤ j by omega)]
    rw [bytesF_O hf, List.length_append] at hi
    refine gs_n 34 a_X5_byteOf_32 rfl ?_
    refine gs_n 35 a_X5_byteOf_34 rfl ?_
    refine gs_get 38 a_X5_byteOf_35 f_5_106 (by first | assumption | exact hs_same _ _ _ | exact (hs_ne _ _ (by first | assumption | decide | omega)).trans (by first | assumption | exact hs_same _ _ _ | exact (hs_ne _ _ (by first | assumption | decide | omega)).trans (by first | assumption | exact hs_same _ _ _ | exact (hs_ne _ _ (by first | assumption | decide | omega)).trans (by first | assumption | exact hs_same _ _ _ | exact (hs_ne _ _ (by first | assumption | decide | omega)).trans (by first | assumption | exact hs_same _ _ _))))) rfl rfl ?_
    refine gs_ic 88 41 a_X5_byteOf_38 rfl rfl (fun c => ?_) (fun c => ?_)
    · have y : eF tE = f := Classical.byContradiction (fun q => by rw [if_neg q, List.length_nil] at hi; omega)
      rw [if_pos y, List.length_take] at hi
      have ht0 : 0 < torn := by omega
      obtain ⟨t1, t2⟩ := ht ht0
      refine gs_n 89 a_X5_byteOf_88 rfl ?_
      refine gs_n 90 a_X5_byteOf_89 rfl ?_
      refine gs_get 93 a_X5_byteOf_90 f_5_106 (by first | assumption | exact hs_same _ _ _ | exact (hs_ne _ _ (by first | assumption | decide | omega)).trans (by first | assumption | exact hs_same _ _ _ | exact (hs_ne _ _ (by first | assumption | decide | omega)).trans (by first | assumption | exact hs_same _ _ _ | exact (hs_ne _ _ (by first | assumption | decide | omega)).trans (by first | assumption | exact hs_same _ _ _ | exact (hs_ne _ _ (by first | assumption | decide | omega)).trans (by first | assumption | exact hs_same _ _ _))))) rfl rfl ?_
      refine gs_n 94 a_X5_byteOf_93 rfl ?_
      refine gs_cv 97 a_X5_byteOf_94 k_5_220 q_X5_byteAt (r_byteAt (d := d) (e := tE) (show X.length < 4200 by omega) (show i - ((fl f X).flatMap (encO P)).length < sz P tE by omega) (hto ht0) t1.1 hP w) rfl rfl rfl (by simp [Value.category]) (by first | assumption | exact hs_same _ _ _ | exact (hs_ne _ _ (by first | assumption | decide | omega)).trans (by first | assumption | exact hs_same _ _ _ | exact (hs_ne _ _ (by first | assumption | decide | omega)).trans (by first | assumption | exact hs_same _ _ _ | exact (hs_ne _ _ (by first | assumption | decide | omega)).trans (by first | assumption | exact hs_same _ _ _ | exact (hs_ne _ _ (by first | assumption | decide | omega)).trans (by first | assumption | exact hs_same _ _ _))))) rfl (fun v h1 hp => ?_)
      cases hp
      refine gs_iret a_X5_byteOf_97 rfl rfl ?_
      rw [bytesF_O hf, gd_r hb, if_pos y, getD_tk (by omega)]
    · exact absurd (nI_le (by omega) (by omega)) c
  | succ r ih =>
    intro j hj hb
    have hjl : j < X.length := by omega
    have hA := ha j hjl
    have g0 := hA.1
    have hokj := hok _ (getD_mem hjl)
    refine gs_n 34 a_X5_byteOf_32 rfl ?_
    refine gs_n 35 a_X5_byteOf_34 rfl ?_
    refine gs_get 38 a_X5_byteOf_35 f_5_106 (by first | assumption | exact hs_same _ _ _ | exact (hs_ne _ _ (by first | assumption | decide | omega)).trans (by first | assumption | exact hs_same _ _ _ | exact (hs_ne _ _ (by first | assumption | decide | omega)).trans (by first | assumption | exact hs_same _ _ _ | exact (hs_ne _ _ (by first | assumption | decide | omega)).trans (by first | assumption | exact hs_same _ _ _ | exact (hs_ne _ _ (by first | assumption | decide | omega)).trans (by first | assumption | exact hs_same _ _ _))))) rfl rfl ?_
    refine gs_ic 88 41 a_X5_byteOf_38 rfl rfl (fun c => ?_) (fun c => ?_)
    · exact absurd c (nI_ge (by omega) (by omega))
    · refine gs_n 42 a_X5_byteOf_41 rfl ?_
      refine gs_get 45 a_X5_byteOf_42 f_5_9 (by first | assumption | exact hs_same _ _ _ | exact (hs_ne _ _ (by first | assumption | decide | omega)).trans (by first | assumption | exact hs_same _ _ _ | exact (hs_ne _ _ (by first | assumption | decide | omega)).trans (by first | assumption | exact hs_same _ _ _ | exact (hs_ne _ _ (by first | assumption | decide | omega)).trans (by first | assumption | exact hs_same _ _ _ | exact (hs_ne _ _ (by first | assumption | decide | omega)).trans (by first | assumption | exact hs_same _ _ _))))) rfl rfl ?_
      refine gs_n 47 a_X5_byteOf_45 rfl ?_
      refine gs_ia j 48 a_X5_byteOf_47 (by first | assumption | exact hs_same _ _ _ | exact (hs_ne _ _ (by first | assumption | decide | omega)).trans (by first | assumption | exact hs_same _ _ _ | exact (hs_ne _ _ (by first | assumption | decide | omega)).trans (by first | assumption | exact hs_same _ _ _ | exact (hs_ne _ _ (by first | assumption | decide | omega)).trans (by first | assumption | exact hs_same _ _ _ | exact (hs_ne _ _ (by first | assumption | decide | omega)).trans (by first | assumption | exact hs_same _ _ _))))) rfl (by omega) (by omega) rfl ?_
      rw [g0]
      refine gs_n 49 a_X5_byteOf_48 rfl ?_
      refine gs_ic 55 52 a_X5_byteOf_49 rfl rfl (fun c2 => ?_) (fun c2 => ?_)
      · have c2 : nI (eF (X.getD j en0)) = nI f := c2
        rw [nI_eq (by have := hokj.1; omega) (by omega)] at c2
        have hfp := fl_tk (p := f) hjl
        rw [if_pos c2] at hfp
        have hel := encO_len hokj
        have hs54 := sz_le hokj
        have hlp : ((fl f (X.take (j + 1))).flatMap (encO P)).length = ((fl f (X.take j)).flatMap (encO P)).length + sz P (X.getD j en0) := by
          rw [hfp, List.flatMap_append, List.length_append, ← hel]
          simp
        refine gs_n 56 a_X5_byteOf_55 rfl ?_
        refine gs_n 57 a_X5_byteOf_56 rfl ?_
        refine gs_n 59 a_X5_byteOf_57 rfl ?_
        refine gs_cv 62 a_X5_byteOf_59 k_5_121 q_X5_sizeOf (r_sizeOf j (by omega) hA hokj hP w rfl) rfl rfl rfl (by simp [Value.category]) (by first | assumption | exact hs_same _ _ _ | exact (hs_ne _ _ (by first | assumption | decide | omega)).trans (by first | assumption | exact hs_same _ _ _ | exact (hs_ne _ _ (by first | assumption | decide | omega)).trans (by first | assumption | exact hs_same _ _ _ | exact (hs_ne _ _ (by first | assumption | decide | omega)).trans (by first | assumption | exact hs_same _ _ _ | exact (hs_ne _ _ (by first | assumption | decide | omega)).trans (by first | assumption | exact hs_same _ _ _))))) rfl (fun v h1 hp => ?_)
        cases hp
        refine gs_ic 73 65 a_X5_byteOf_62 rfl rfl (fun c62 => ?_) (fun c62 => ?_)
        · have c62 : nI (sz P (X.getD j en0)) ≤ nI (i - ((fl f (X.take j)).flatMap (encO P)).length) := c62
          rw [nI_leI (by omega) (by omega)] at c62
          refine gs_n 74 a_X5_byteOf_73 rfl ?_
          refine gs_n 75 a_X5_byteOf_74 rfl ?_
          refine gs_n 77 a_X5_byteOf_75 rfl ?_
          refine gs_cv 80 a_X5_byteOf_77 k_5_121 q_X5_sizeOf (r_sizeOf j (by omega) hA hokj hP w rfl) rfl rfl rfl (by simp [Value.category]) (by first | assumption | exact hs_same _ _ _ | exact (hs_ne _ _ (by first | assumption | decide | omega)).trans (by first | assumption | exact hs_same _ _ _ | exact (hs_ne _ _ (by first | assumption | decide | omega)).trans (by first | assumption | exact hs_same _ _ _ | exact (hs_ne _ _ (by first | assumption | decide | omega)).trans (by first | assumption | exact hs_same _ _ _ | exact (hs_ne _ _ (by first | assumption | decide | omega)).trans (by first | assumption | exact hs_same _ _ _))))) rfl (fun v h1 hp => ?_)
          cases hp
          refine gs_n 81 a_X5_byteOf_80 rfl ?_
          refine gs_n 82 a_X5_byteOf_81 rfl ?_
          first | refine gs_inc _ 85 a_X5_byteOf_82 rfl (Nat.le_of_ble_eq_true rfl) rfl ?_ | refine gs_n 85 a_X5_byteOf_82 rfl ?_
          refine gs_n 32 a_X5_byteOf_85 rfl ?_
          refine gs_w [(4, .int (nI (j + 1))), (3, .int (nI (i - ((fl f (X.take j)).flatMap (encO P)).length) - nI (sz P (X.getD j en0)))), (0, .ref 96), (1, .int (nI f))] (by simp [ix_nd]) (by intro x hx; simp only [List.mem_cons, List.not_mem_nil, or_false] at hx; rcases hx with rfl | rfl | rfl | rfl <;> rfl) ?_
          rw [pk_sub c62, Nat.sub_sub, ← hlp]
          exact ih (j + 1) (by omega) (by omega)
        · have c62 : ¬ nI (sz P (X.getD j en0)) ≤ nI (i - ((fl f (X.take j)).flatMap (encO P)).length) := c62
          rw [nI_leI (by omega) (by omega)] at c62
          refine gs_n 66 a_X5_byteOf_65 rfl ?_
          refine gs_n 68 a_X5_byteOf_66 rfl ?_
          refine gs_n 69 a_X5_byteOf_68 rfl ?_
          refine gs_cv 72 a_X5_byteOf_69 k_5_220 q_X5_byteAt (r_byteAt (d := d) (e := X.getD j en0) (by omega) (show i - ((fl f (X.take j)).flatMap (encO P)).length < sz P (X.getD j en0) by omega) hA hokj hP w) rfl rfl rfl (by simp [Value.category]) (by first | assumption | exact hs_same _ _ _ | exact (hs_ne _ _ (by first | assumption | decide | omega)).trans (by first | assumption | exact hs_same _ _ _ | exact (hs_ne _ _ (by first | assumption | decide | omega)).trans (by first | assumption | exact hs_same _ _ _ | exact (hs_ne _ _ (by first | assumption | decide | omega)).trans (by first | assumption | exact hs_same _ _ _ | exact (hs_ne _ _ (by first | assumption | decide | omega)).trans (by first | assumption | exact hs_same _ _ _))))) rfl (fun v h1 hp => ?_)
          cases hp
          refine gs_iret a_X5_byteOf_72 rfl rfl ?_
          obtain ⟨q, hq1, hq2⟩ := flB_take (X := X) f j
          obtain ⟨q', hq3⟩ := hq2 hjl c2
          rw [bytesF_O hf, hq1, hq3, List.flatMap_append, List.flatMap_cons, List.append_assoc, gd_r hb, List.append_assoc, gd_l (by omega)]
      · have c2 : ¬ nI (eF (X.getD j en0)) = nI f := c2
        rw [nI_eq (by have := hokj.1; omega) (by omega)] at c2
        have hfp := fl_tk (p := f) hjl
        rw [if_neg c2] at hfp
        refine gs_n 82 a_X5_byteOf_52 rfl ?_
        first | refine gs_inc _ 85 a_X5_byteOf_82 rfl (Nat.le_of_ble_eq_true rfl) rfl ?_ | refine gs_n 85 a_X5_byteOf_82 rfl ?_
        refine gs_n 32 a_X5_byteOf_85 rfl ?_
        refine gs_w [(4, .int (nI (j + 1))), (3, .int (nI (i - ((fl f (X.take j)).flatMap (encO P)).length))), (0, .ref 96), (1, .int (nI f))] (by simp [ix_nd]) (by intro x hx; simp only [List.mem_cons, List.not_mem_nil, or_false] at hx; rcases hx with rfl | rfl | rfl | rfl <;> rfl) ?_
        rw [← hfp]
        exact ih (j + 1) (by omega) (by rw [hfp]; exact hb)
theorem r_byteOf (f i : Int32) (hs : SI (P, cap, tmo, clk, cl, cut, X, sy, torn, tE, tp, an)) (w : RS h (P, cap, tmo, clk, cl, cut, X, sy, torn, tE, tp, an)) : ev (d + 4) n_X5_byteOf [.ref 96, .int f, .int i] h (fun u => u = (some (.int (F_byteOf (P, cap, tmo, clk, cl, cut, X, sy, torn, tE, tp, an) f i)), h)) := by
  have hsX := hs.okX
  obtain ⟨s1, s2, s3, s4, s5, s6, s7, s8, s9, hv, s11, s12, -⟩ := hs
  have w' : RE h P cap tmo clk cl cut X sy torn tE tp an (tS cl P X) := w
  obtain ⟨ar, wm, hE, hto, hTR, h18, h19⟩ := w'.un
  have w0 := wm.1
  simp only [mcell] at w0
  simp only [F_byteOf]
  refine ev_of q_X5_byteOf (Nat.le_of_ble_eq_true rfl) ?_
  refine gs_n 1 a_X5_byteOf_0 rfl ?_
  refine gs_if 25 4 a_X5_byteOf_1 rfl rfl (fun c1 => ?_) (fun c1 => ?_)
  · have c1 : f < 0 := c1
    rw [lt0_iff] at c1
    rw [if_pos (by omega)]
    refine gs_k (-1) 26 a_X5_byteOf_25 (by decide +kernel) rfl ?_
    refine gs_iret a_X5_byteOf_26 rfl rfl ?_
    rfl
  · have c1 : ¬ f < 0 := c1
    rw [lt0_iff] at c1
    refine gs_n 5 a_X5_byteOf_4 rfl ?_
    refine gs_n 6 a_X5_byteOf_5 rfl ?_
    refine gs_get 9 a_X5_byteOf_6 f_5_87 (by first | assumption | exact hs_same _ _ _ | exact (hs_ne _ _ (by first | assumption | decide | omega)).trans (by first | assumption | exact hs_same _ _ _ | exact (hs_ne _ _ (by first | assumption | decide | omega)).trans (by first | assumption | exact hs_same _ _ _ | exact (hs_ne _ _ (by first | assumption | decide | omega)).trans (by first | assumption | exact hs_same _ _ _ | exact (hs_ne _ _ (by first | assumption | decide | omega)).trans (by first | assumption | exact hs_same _ _ _))))) rfl rfl ?_
    refine gs_ic 25 12 a_X5_byteOf_9 rfl rfl (fun c9 => ?_) (fun c9 => ?_)
    · have c9 : nI P < f := c9
      rw [lt_lit (by omega)] at c9
      rw [if_pos (by omega)]
      refine gs_k (-1) 26 a_X5_byteOf_25 (by decide +kernel) rfl ?_
      refine gs_iret a_X5_byteOf_26 rfl rfl ?_
      rfl
    · have c9 : ¬ nI P < f := c9
      rw [lt_lit (by omega)] at c9
      rw [if_neg (by omega)]
      have hfx : f = nI (kn f) := nI_ofInt (by omega)
      have hfP : kn f ≤ P := by unfold kn; omega
      generalize hkf : kn f = ff' at *
      subst hfx
      unfold rAt
      refine gs_n 13 a_X5_byteOf_12 rfl ?_
      refine gs_if 25 16 a_X5_byteOf_13 rfl rfl (fun c13 => ?_) (fun c13 => ?_)
      · have c13 : i < 0 := c13
        rw [lt0_iff] at c13
        rw [if_neg (by omega)]
        refine gs_k (-1) 26 a_X5_byteOf_25 (by decide +kernel) rfl ?_
        refine gs_iret a_X5_byteOf_26 rfl rfl ?_
        rfl
      · have c13 : ¬ i < 0 := c13
        rw [lt0_iff] at c13
        have hbl := bytesF_len (torn := torn) (tE := tE) hsX.1 s12 hfP
        have hsum := sum_b (g := szF P ff') (show X.length ≤ 4200 by omega) (fun e he => szF_le (hsX.1 e he).1) 0 X.length
        rw [List.drop_zero, List.take_length] at hsum
        have hbb : (bytesF P torn tE X ff').length < 2 ^ 30 + 300000 := by
          rw [hbl]
          split <;> omega
        have hbb2 : (bytesF P torn tE X ff').length < 2 ^ 29 := by
          rw [hbl]
          split
          · rename_i q
            have := s12 q.1
            have := sz_le this.1.1
            omega
          · omega
        refine gs_n 17 a_X5_byteOf_16 rfl ?_
        refine gs_n 18 a_X5_byteOf_17 rfl ?_
        refine gs_n 19 a_X5_byteOf_18 rfl ?_
        refine gs_cv 22 a_X5_byteOf_19 k_5_208 q_X5_bytesOf (r_bytesOf hfP s2 hsX.2.1 hsX.1 hsX.2.2 s12 w') rfl rfl rfl (by simp [Value.category]) (by first | assumption | exact hs_same _ _ _ | exact (hs_ne _ _ (by first | assumption | decide | omega)).trans (by first | assumption | exact hs_same _ _ _ | exact (hs_ne _ _ (by first | assumption | decide | omega)).trans (by first | assumption | exact hs_same _ _ _ | exact (hs_ne _ _ (by first | assumption | decide | omega)).trans (by first | assumption | exact hs_same _ _ _ | exact (hs_ne _ _ (by first | assumption | decide | omega)).trans (by first | assumption | exact hs_same _ _ _))))) rfl (fun v h1 hp => ?_)
        cases hp
        refine gs_ic 27 25 a_X5_byteOf_22 rfl rfl (fun c22 => ?_) (fun c22 => ?_)
        · have c22 : i < nI (bytesF P torn tE X ff').length := c22
          rw [lt_lit' (by omega)] at c22
          rw [if_pos (by omega)]
          have hix : i = nI i.toInt.toNat := nI_ofInt (by omega)
          have hib : i.toInt.toNat < (bytesF P torn tE X ff').length := by omega
          generalize hki : i.toInt.toNat = m at *
          subst hix
          refine gs_n 28 a_X5_byteOf_27 rfl ?_
          refine gs_n 29 a_X5_byteOf_28 rfl ?_
          refine gs_k (nI 0) 30 a_X5_byteOf_29 (by decide +kernel) rfl ?_
          refine gs_n 32 a_X5_byteOf_30 rfl ?_
          refine gs_w [(4, .int (nI 0)), (3, .int (nI (m - ((fl ff' (X.take 0)).flatMap (encO P)).length))), (0, .ref 96), (1, .int (nI ff'))] (by simp [ix_nd]) (by intro x hx; simp only [List.mem_cons, List.not_mem_nil, or_false] at hx; rcases hx with rfl | rfl | rfl | rfl <;> rfl) ?_
          exact l_byteOf (a6 := 0) hfP s2 hib (by omega) hsX.2.1 s12 hto hE wm X.length 0 (by omega) (Nat.zero_le _)
        · have c22 : ¬ i < nI (bytesF P torn tE X ff').length := c22
          rw [lt_lit' (by omega)] at c22
          rw [if_neg (by omega)]
          refine gs_k (-1) 26 a_X5_byteOf_25 (by decide +kernel) rfl ?_
          refine gs_iret a_X5_byteOf_26 rfl rfl ?_
          rfl
theorem l_rcount {Q : ix_O → Prop} {what : Int32} (w : RE h P cap tmo clk cl cut X sy torn tE tp an T) (kk : gs none d mD_X5_count (33, [(2, .int (nI (cntR T))), (0, .ref 96), (1, .int what)], [], h) Q) : ∀ (r j : Nat), j + r = 32 →
    gs none d mD_X5_count (4, [(3, .int (nI j)), (2, .int (nI (cnt (fun k => !decide (T.2.1 k = 0)) j))), (0, .ref 96), (1, .int what)], [], h) Q := by
  obtain ⟨ar, wm, hE, hto, hTR, h18, h19⟩ := w.un
  obtain ⟨w0, w1, w2, w3, w4, w5, w6, w7, w8, w9, -⟩ := id wm
  simp only [mcell] at w0
  intro r
  induction r with
  | zero =>
    intro j hj
    obtain rfl : j = 32 := by omega
    refine gs_n 5 a_X5_count_4 rfl ?_
    refine gs_k (nI 32) 7 a_X5_count_5 (by decide +kernel) rfl ?_
    refine gs_ic 33 10 a_X5_count_7 rfl rfl (fun c => ?_) (fun c => ?_)
    · refine gs_w [(2, .int (nI (cntR T))), (0, .ref 96), (1, .int what)] (by simp [ix_nd]) (by intro x hx; simp only [List.mem_cons, List.not_mem_nil, or_false] at hx; rcases hx with rfl | rfl | rfl <;> rfl) ?_
      exact kk
    · exact absurd (nI_le (Nat.le_refl 32) (by omega)) c
  | succ r ih =>
    intro j hj
    have hcl := cnt_le (fun k => !decide (T.2.1 k = 0)) j
    have t1 := (hTR.k (show j < 32 by omega)).1
    have fin : ∀ t, t = (if (!decide (T.2.1 j = 0)) = true then 1 else 0) → gs none d mD_X5_count (25, [(3, .int (nI j)), (2, .int (nI (cnt (fun k => !decide (T.2.1 k = 0)) j))), (0, .ref 96), (1, .int what)], [.int (nI t), .int (nI (cnt (fun k => !decide (T.2.1 k = 0)) j))], h) Q := by
      intro t ht
      refine gs_n 26 a_X5_count_25 rfl ?_
      refine gs_n 27 a_X5_count_26 rfl ?_
      first | refine gs_inc _ 30 a_X5_count_27 rfl (Nat.le_of_ble_eq_true rfl) rfl ?_ | refine gs_n 30 a_X5_count_27 rfl ?_
      refine gs_n 4 a_X5_count_30 rfl ?_
      refine gs_w [(3, .int (nI (j + 1))), (2, .int (nI (cnt (fun k => !decide (T.2.1 k = 0)) j) + nI t)), (0, .ref 96), (1, .int what)] (by simp [ix_nd]) (by intro x hx; simp only [List.mem_cons, List.not_mem_nil, or_false] at hx; rcases hx with rfl | rfl | rfl | rfl <;> rfl) ?_
      rw [nI_add, show cnt (fun k => !decide (T.2.1 k = 0)) j + t = cnt (fun k => !decide (T.2.1 k = 0)) (j + 1) by simp only [cnt, ht]]
      exact ih (j + 1) (by omega)
    refine gs_n 5 a_X5_count_4 rfl ?_
    refine gs_k (nI 32) 7 a_X5_count_5 (by decide +kernel) rfl ?_
    refine gs_ic 33 10 a_X5_count_7 rfl rfl (fun c => ?_) (fun c => ?_)
    · exact absurd c (nI_ge (by omega) (by omega))
    · refine gs_n 11 a_X5_count_10 rfl ?_
      refine gs_n 12 a_X5_count_11 rfl ?_
      refine gs_get 15 a_X5_count_12 f_5_36 (by first | assumption | exact hs_same _ _ _ | exact (hs_ne _ _ (by first | assumption | decide | omega)).trans (by first | assumption | exact hs_same _ _ _ | exact (hs_ne _ _ (by first | assumption | decide | omega)).trans (by first | assumption | exact hs_same _ _ _ | exact (hs_ne _ _ (by first | assumption | decide | omega)).trans (by first | assumption | exact hs_same _ _ _ | exact (hs_ne _ _ (by first | assumption | decide | omega)).trans (by first | assumption | exact hs_same _ _ _))))) rfl rfl ?_
      refine gs_n 16 a_X5_count_15 rfl ?_
      refine gs_za j 17 a_X5_count_16 (by first | assumption | exact hs_same _ _ _ | exact (hs_ne _ _ (by first | assumption | decide | omega)).trans (by first | assumption | exact hs_same _ _ _ | exact (hs_ne _ _ (by first | assumption | decide | omega)).trans (by first | assumption | exact hs_same _ _ _ | exact (hs_ne _ _ (by first | assumption | decide | omega)).trans (by first | assumption | exact hs_same _ _ _ | exact (hs_ne _ _ (by first | assumption | decide | omega)).trans (by first | assumption | exact hs_same _ _ _))))) rfl (by omega) (by omega) rfl ?_
      rw [t1]
      refine gs_if 24 20 a_X5_count_17 rfl rfl (fun c2 => ?_) (fun c2 => ?_)
      · have c2 := (b01_0 _).mp c2
        refine gs_k (nI 0) 25 a_X5_count_24 (by decide +kernel) rfl ?_
        exact fin 0 (by rw [c2]; rfl)
      · have c2 := (b01_ne _).mp c2
        refine gs_k (nI 1) 21 a_X5_count_20 (by decide +kernel) rfl ?_
        refine gs_n 25 a_X5_count_21 rfl ?_
        exact fin 1 (by rw [c2]; rfl)
theorem r_count (what : Int32) (hs : SI (P, cap, tmo, clk, cl, cut, X, sy, torn, tE, tp, an)) (w : RS h (P, cap, tmo, clk, cl, cut, X, sy, torn, tE, tp, an)) : ev (d + 4) n_X5_count [.ref 96, .int what] h (fun u => u = (some (.int (F_count (P, cap, tmo, clk, cl, cut, X, sy, torn, tE, tp, an) what)), h)) := by
  have hsX := hs.okX
  obtain ⟨s1, s2, s3, s4, s5, s6, s7, s8, s9, hv, s11, s12, -⟩ := hs
  have w' : RE h P cap tmo clk cl cut X sy torn tE tp an (tS cl P X) := w
  have w0 := w'.obj
  simp only [mcell] at w0
  simp only [F_count]
  refine ev_of q_X5_count (Nat.le_of_ble_eq_true rfl) ?_
  refine gs_k (nI 0) 1 a_X5_count_0 (by decide +kernel) rfl ?_
  refine gs_n 2 a_X5_count_1 rfl ?_
  refine gs_k (nI 0) 3 a_X5_count_2 (by decide +kernel) rfl ?_
  refine gs_n 4 a_X5_count_3 rfl ?_
  refine gs_w [(3, .int (nI 0)), (2, .int (nI (cnt (fun k => !decide ((tS cl P X).2.1 k = 0)) 0))), (0, .ref 96), (1, .int what)] (by simp [ix_nd]) (by intro x hx; simp only [List.mem_cons, List.not_mem_nil, or_false] at hx; rcases hx with rfl | rfl | rfl | rfl <;> rfl) ?_
  refine l_rcount w' ?_ 32 0 (by omega)
  refine gs_n 34 a_X5_count_33 rfl ?_
  rcases sw_cases what 12 with ⟨i, hi, rfl⟩ | hd
  · rw [swi_n (by exact hi) (by simp)]
    rcases (by omega : i = 0 ∨ i = 1 ∨ i = 2 ∨ i = 3 ∨ i = 4 ∨ i = 5 ∨ i = 6 ∨ i = 7 ∨ i = 8 ∨ i = 9 ∨ i = 10 ∨ i = 11) with z | z | z | z | z | z | z | z | z | z | z | z <;> subst z
    · refine gs_n 96 a_X5_count_34 rfl ?_
      refine gs_n 97 a_X5_count_96 rfl ?_
      refine gs_get 100 a_X5_count_97 f_5_87 (by first | assumption | exact hs_same _ _ _ | exact (hs_ne _ _ (by first | assumption | decide | omega)).trans (by first | assumption | exact hs_same _ _ _ | exact (hs_ne _ _ (by first | assumption | decide | omega)).trans (by first | assumption | exact hs_same _ _ _ | exact (hs_ne _ _ (by first | assumption | decide | omega)).trans (by first | assumption | exact hs_same _ _ _ | exact (hs_ne _ _ (by first | assumption | decide | omega)).trans (by first | assumption | exact hs_same _ _ _))))) rfl rfl ?_
      refine gs_iret a_X5_count_100 rfl rfl ?_
      rfl
    · refine gs_n 101 a_X5_count_34 rfl ?_
      refine gs_n 102 a_X5_count_101 rfl ?_
      refine gs_get 105 a_X5_count_102 f_5_90 (by first | assumption | exact hs_same _ _ _ | exact (hs_ne _ _ (by first | assumption | decide | omega)).trans (by first | assumption | exact hs_same _ _ _ | exact (hs_ne _ _ (by first | assumption | decide | omega)).trans (by first | assumption | exact hs_same _ _ _ | exact (hs_ne _ _ (by first | assumption | decide | omega)).trans (by first | assumption | exact hs_same _ _ _ | exact (hs_ne _ _ (by first | assumption | decide | omega)).trans (by first | assumption | exact hs_same _ _ _))))) rfl rfl ?_
      refine gs_iret a_X5_count_105 rfl rfl ?_
      rfl
    · refine gs_n 106 a_X5_count_34 rfl ?_
      refine gs_n 107 a_X5_count_106 rfl ?_
      refine gs_get 110 a_X5_count_107 f_5_93 (by first | assumption | exact hs_same _ _ _ | exact (hs_ne _ _ (by first | assumption | decide | omega)).trans (by first | assumption | exact hs_same _ _ _ | exact (hs_ne _ _ (by first | assumption | decide | omega)).trans (by first | assumption | exact hs_same _ _ _ | exact (hs_ne _ _ (by first | assumption | decide | omega)).trans (by first | assumption | exact hs_same _ _ _ | exact (hs_ne _ _ (by first | assumption | decide | omega)).trans (by first | assumption | exact hs_same _ _ _))))) rfl rfl ?_
      refine gs_iret a_X5_count_110 rfl rfl ?_
      rfl
    · refine gs_n 111 a_X5_count_34 rfl ?_
      refine gs_n 112 a_X5_count_111 rfl ?_
      refine gs_get 115 a_X5_count_112 f_5_96 (by first | assumption | exact hs_same _ _ _ | exact (hs_ne _ _ (by first | assumption | decide | omega)).trans (by first | assumption | exact hs_same _ _ _ | exact (hs_ne _ _ (by first | assumption | decide | omega)).trans (by first | assumption | exact hs_same _ _ _ | exact (hs_ne _ _ (by first | assumption | decide | omega)).trans (by first | assumption | exact hs_same _ _ _ | exact (hs_ne _ _ (by first | assumption | decide | omega)).trans (by first | assumption | exact hs_same _ _ _))))) rfl rfl ?_
      refine gs_iret a_X5_count_115 rfl rfl ?_
      rfl
    · refine gs_n 116 a_X5_count_34 rfl ?_
      refine gs_n 117 a_X5_count_116 rfl ?_
      refine gs_cv 120 a_X5_count_117 k_5_199 q_X5_unsynced (r_unsynced s9 s2 w') rfl rfl rfl (by simp [Value.category]) (by first | assumption | exact hs_same _ _ _ | exact (hs_ne _ _ (by first | assumption | decide | omega)).trans (by first | assumption | exact hs_same _ _ _ | exact (hs_ne _ _ (by first | assumption | decide | omega)).trans (by first | assumption | exact hs_same _ _ _ | exact (hs_ne _ _ (by first | assumption | decide | omega)).trans (by first | assumption | exact hs_same _ _ _ | exact (hs_ne _ _ (by first | assumption | decide | omega)).trans (by first | assumption | exact hs_same _ _ _))))) rfl (fun v h1 hp => ?_)
      cases hp
      refine gs_iret a_X5_count_120 rfl rfl ?_
      rfl
    · refine gs_n 121 a_X5_count_34 rfl ?_
      refine gs_n 122 a_X5_count_121 rfl ?_
      refine gs_n 123 a_X5_count_122 rfl ?_
      refine gs_get 126 a_X5_count_123 f_5_87 (by first | assumption | exact hs_same _ _ _ | exact (hs_ne _ _ (by first | assumption | decide | omega)).trans (by first | assumption | exact hs_same _ _ _ | exact (hs_ne _ _ (by first | assumption | decide | omega)).trans (by first | assumption | exact hs_same _ _ _ | exact (hs_ne _ _ (by first | assumption | decide | omega)).trans (by first | assumption | exact hs_same _ _ _ | exact (hs_ne _ _ (by first | assumption | decide | omega)).trans (by first | assumption | exact hs_same _ _ _))))) rfl rfl ?_
      refine gs_cv 129 a_X5_count_126 k_5_208 q_X5_bytesOf (r_bytesOf (Nat.le_refl P) s2 hsX.2.1 hsX.1 hsX.2.2 s12 w') rfl rfl rfl (by simp [Value.category]) (by first | assumption | exact hs_same _ _ _ | exact (hs_ne _ _ (by first | assumption | decide | omega)).trans (by first | assumption | exact hs_same _ _ _ | exact (hs_ne _ _ (by first | assumption | decide | omega)).trans (by first | assumption | exact hs_same _ _ _ | exact (hs_ne _ _ (by first | assumption | decide | omega)).trans (by first | assumption | exact hs_same _ _ _ | exact (hs_ne _ _ (by first | assumption | decide | omega)).trans (by first | assumption | exact hs_same _ _ _))))) rfl (fun v h1 hp => ?_)
      cases hp
      refine gs_iret a_X5_count_129 rfl rfl ?_
      rfl
    · refine gs_n 130 a_X5_count_34 rfl ?_
      refine gs_n 131 a_X5_count_130 rfl ?_
      refine gs_get 134 a_X5_count_131 f_5_168 (by first | assumption | exact hs_same _ _ _ | exact (hs_ne _ _ (by first | assumption | decide | omega)).trans (by first | assumption | exact hs_same _ _ _ | exact (hs_ne _ _ (by first | assumption | decide | omega)).trans (by first | assumption | exact hs_same _ _ _ | exact (hs_ne _ _ (by first | assumption | decide | omega)).trans (by first | assumption | exact hs_same _ _ _ | exact (hs_ne _ _ (by first | assumption | decide | omega)).trans (by first | assumption | exact hs_same _ _ _))))) rfl rfl ?_
      refine gs_iret a_X5_count_134 rfl rfl ?_
      rfl
    · refine gs_n 135 a_X5_count_34 rfl ?_
      refine gs_n 136 a_X5_count_135 rfl ?_
      refine gs_get 139 a_X5_count_136 f_5_99 (by first | assumption | exact hs_same _ _ _ | exact (hs_ne _ _ (by first | assumption | decide | omega)).trans (by first | assumption | exact hs_same _ _ _ | exact (hs_ne _ _ (by first | assumption | decide | omega)).trans (by first | assumption | exact hs_same _ _ _ | exact (hs_ne _ _ (by first | assumption | decide | omega)).trans (by first | assumption | exact hs_same _ _ _ | exact (hs_ne _ _ (by first | assumption | decide | omega)).trans (by first | assumption | exact hs_same _ _ _))))) rfl rfl ?_
      refine gs_if 146 142 a_X5_count_139 rfl rfl (fun c => ?_) (fun c => ?_)
      · have c := (b01_0 _).mp c
        subst c
        refine gs_k (nI 0) 147 a_X5_count_146 (by decide +kernel) rfl ?_
        refine gs_iret a_X5_count_147 rfl rfl ?_
        rfl
      · have c := (b01_ne _).mp c
        subst c
        refine gs_k (nI 1) 143 a_X5_count_142 (by decide +kernel) rfl ?_
        refine gs_n 147 a_X5_count_143 rfl ?_
        refine gs_iret a_X5_count_147 rfl rfl ?_
        rfl
    · refine gs_n 148 a_X5_count_34 rfl ?_
      refine gs_n 149 a_X5_count_148 rfl ?_
      refine gs_get 152 a_X5_count_149 f_5_103 (by first | assumption | exact hs_same _ _ _ | exact (hs_ne _ _ (by first | assumption | decide | omega)).trans (by first | assumption | exact hs_same _ _ _ | exact (hs_ne _ _ (by first | assumption | decide | omega)).trans (by first | assumption | exact hs_same _ _ _ | exact (hs_ne _ _ (by first | assumption | decide | omega)).trans (by first | assumption | exact hs_same _ _ _ | exact (hs_ne _ _ (by first | assumption | decide | omega)).trans (by first | assumption | exact hs_same _ _ _))))) rfl rfl ?_
      refine gs_iret a_X5_count_152 rfl rfl ?_
      rfl
    · refine gs_n 153 a_X5_count_34 rfl ?_
      refine gs_n 154 a_X5_count_153 rfl ?_
      refine gs_get 157 a_X5_count_154 f_5_99 (by first | assumption | exact hs_same _ _ _ | exact (hs_ne _ _ (by first | assumption | decide | omega)).trans (by first | assumption | exact hs_same _ _ _ | exact (hs_ne _ _ (by first | assumption | decide | omega)).trans (by first | assumption | exact hs_same _ _ _ | exact (hs_ne _ _ (by first | assumption | decide | omega)).trans (by first | assumption | exact hs_same _ _ _ | exact (hs_ne _ _ (by first | assumption | decide | omega)).trans (by first | assumption | exact hs_same _ _ _))))) rfl rfl ?_
      refine gs_if 164 160 a_X5_count_157 rfl rfl (fun c => ?_) (fun c => ?_)
      · have c := (b01_0 _).mp c
        subst c
        refine gs_n 165 a_X5_count_164 rfl ?_
        refine gs_iret a_X5_count_165 rfl rfl ?_
        rfl
      · have c := (b01_ne _).mp c
        subst c
        refine gs_k (-1) 161 a_X5_count_160 (by decide +kernel) rfl ?_
        refine gs_n 165 a_X5_count_161 rfl ?_
        refine gs_iret a_X5_count_165 rfl rfl ?_
        rfl
    · refine gs_n 166 a_X5_count_34 rfl ?_
      refine gs_n 167 a_X5_count_166 rfl ?_
      refine gs_get 170 a_X5_count_167 f_5_99 (by first | assumption | exact hs_same _ _ _ | exact (hs_ne _ _ (by first | assumption | decide | omega)).trans (by first | assumption | exact hs_same _ _ _ | exact (hs_ne _ _ (by first | assumption | decide | omega)).trans (by first | assumption | exact hs_same _ _ _ | exact (hs_ne _ _ (by first | assumption | decide | omega)).trans (by first | assumption | exact hs_same _ _ _ | exact (hs_ne _ _ (by first | assumption | decide | omega)).trans (by first | assumption | exact hs_same _ _ _))))) rfl rfl ?_
      refine gs_if 177 173 a_X5_count_170 rfl rfl (fun c => ?_) (fun c => ?_)
      · have c := (b01_0 _).mp c
        subst c
        refine gs_n 178 a_X5_count_177 rfl ?_
        refine gs_cv 181 a_X5_count_178 k_5_147 q_X5_opened (r_opened (fun k hk => (T_b hv false k hk).2.1) w') rfl rfl rfl (by simp [Value.category]) (by first | assumption | exact hs_same _ _ _ | exact (hs_ne _ _ (by first | assumption | decide | omega)).trans (by first | assumption | exact hs_same _ _ _ | exact (hs_ne _ _ (by first | assumption | decide | omega)).trans (by first | assumption | exact hs_same _ _ _ | exact (hs_ne _ _ (by first | assumption | decide | omega)).trans (by first | assumption | exact hs_same _ _ _ | exact (hs_ne _ _ (by first | assumption | decide | omega)).trans (by first | assumption | exact hs_same _ _ _))))) rfl (fun v h1 hp => ?_)
        cases hp
        refine gs_iret a_X5_count_181 rfl rfl ?_
        rfl
      · have c := (b01_ne _).mp c
        subst c
        refine gs_k (-1) 174 a_X5_count_173 (by decide +kernel) rfl ?_
        refine gs_n 181 a_X5_count_174 rfl ?_
        refine gs_iret a_X5_count_181 rfl rfl ?_
        rfl
    · refine gs_n 182 a_X5_count_34 rfl ?_
      refine gs_n 183 a_X5_count_182 rfl ?_
      refine gs_get 186 a_X5_count_183 f_5_99 (by first | assumption | exact hs_same _ _ _ | exact (hs_ne _ _ (by first | assumption | decide | omega)).trans (by first | assumption | exact hs_same _ _ _ | exact (hs_ne _ _ (by first | assumption | decide | omega)).trans (by first | assumption | exact hs_same _ _ _ | exact (hs_ne _ _ (by first | assumption | decide | omega)).trans (by first | assumption | exact hs_same _ _ _ | exact (hs_ne _ _ (by first | assumption | decide | omega)).trans (by first | assumption | exact hs_same _ _ _))))) rfl rfl ?_
      refine gs_if 193 189 a_X5_count_186 rfl rfl (fun c => ?_) (fun c => ?_)
      · have c := (b01_0 _).mp c
        subst c
        refine gs_n 194 a_X5_count_193 rfl ?_
        refine gs_get 197 a_X5_count_194 f_5_80 (by first | assumption | exact hs_same _ _ _ | exact (hs_ne _ _ (by first | assumption | decide | omega)).trans (by first | assumption | exact hs_same _ _ _ | exact (hs_ne _ _ (by first | assumption | decide | omega)).trans (by first | assumption | exact hs_same _ _ _ | exact (hs_ne _ _ (by first | assumption | decide | omega)).trans (by first | assumption | exact hs_same _ _ _ | exact (hs_ne _ _ (by first | assumption | decide | omega)).trans (by first | assumption | exact hs_same _ _ _))))) rfl rfl ?_
        refine gs_iret a_X5_count_197 rfl rfl ?_
        rfl
      · have c := (b01_ne _).mp c
        subst c
        refine gs_k (-1) 190 a_X5_count_189 (by decide +kernel) rfl ?_
        refine gs_n 197 a_X5_count_190 rfl ?_
        refine gs_iret a_X5_count_197 rfl rfl ?_
        rfl
  · rw [swi_d (by simp only [List.length_cons, List.length_nil]; omega)]
    refine gs_swd 198 a_X5_count_34 (by omega) rfl ?_
    refine gs_k (-1) 199 a_X5_count_198 (by decide +kernel) rfl ?_
    refine gs_iret a_X5_count_199 rfl rfl ?_
    rfl
end R12
