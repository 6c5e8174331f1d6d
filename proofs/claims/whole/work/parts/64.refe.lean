/-! The reference: tells, open -/
section R14
variable {d : Nat} {h : ix_H} {P cap tmo clk cut sy torn : Nat} {cl : Bool} {X : List En} {tE : En} {tp an : List Nat} {n nx : Nat} {ep tx bg ba lc de mq en : Nat → Nat} {ad : Nat → Int32} {la : List (Nat × Nat × Nat)} {T : TS} {ar : Nat → Nat → Int32}
/-- the cells of the reference, the array of decisions too -/
def cW (k : Nat) : Prop := 96 ≤ k
theorem FS.w {h' : ix_H} (hF : FS cM h h') : FS cW h h' := ⟨hF.1, hF.2.1, fun k hk => hF.2.2 k (fun q => hk q.1)⟩
theorem FS.k117 {h' : ix_H} (hF : FS cM h h') : h'.2.2 117 = h.2.2 117 := hF.2.2 117 (fun q => q.2 rfl)
theorem FS.w1 {k : Nat} (x : ix_E) (hk : 96 ≤ k) : FS cW h (ix_set h k x) := FS.of (Fr.set _ (List.mem_singleton.mpr rfl)) (by intro z hz; simp at hz; subst hz; exact hk)
def RDh (h : ix_H) (T : TS) : Prop := ∀ g, h.2.2 117 = .inl (.int, 1100, .inl g) → RD g T
theorem RDh.keep {h' : ix_H} (w : RDh h T) (hF : FS cM h h') {T' : TS} (hT : ∀ g, RD g T → RD g T') : RDh h' T' := by
  intro g hg
  rw [hF.k117] at hg
  exact hT g (w g hg)
theorem MW.s20' {s : MS} (w : MW h s ar) (f : Nat → Int32) : MW (ix_set h 117 (.inl (.int, 1100, .inl f))) s (va_up ar 20 f) := by
  obtain ⟨w0, w1, w2, w3, w4, w5, w6, w7, w8, w9, w10, w11, w12, w13, w14, w15, w16, w17, w18, w19, w20, w21⟩ := w
  exact ⟨(hs_ne _ _ (by decide)).trans w0, (hs_ne _ _ (by decide)).trans w1, (hs_ne _ _ (by decide)).trans w2, (hs_ne _ _ (by decide)).trans w3, (hs_ne _ _ (by decide)).trans w4, (hs_ne _ _ (by decide)).trans w5, (hs_ne _ _ (by decide)).trans w6, (hs_ne _ _ (by decide)).trans w7, (hs_ne _ _ (by decide)).trans w8, (hs_ne _ _ (by decide)).trans w9, (hs_ne _ _ (by decide)).trans w10, (hs_ne _ _ (by decide)).trans w11, (hs_ne _ _ (by decide)).trans w12, (hs_ne _ _ (by decide)).trans w13, (hs_ne _ _ (by decide)).trans w14, (hs_ne _ _ (by decide)).trans w15, (hs_ne _ _ (by decide)).trans w16, (hs_ne _ _ (by decide)).trans w17, (hs_ne _ _ (by decide)).trans w18, (hs_ne _ _ (by decide)).trans w19, (hs_ne _ _ (by decide)).trans w20, hs_same _ _ _⟩
theorem TR_20 {f : Nat → Int32} (w : TR ar T) : TR (va_up ar 20 f) T := by
  obtain ⟨n, ep, tx, bg, ba, ad, lc, de, mq, nx, la, en⟩ := T
  exact w
theorem inl_inj {f g : Nat → Int32} {h : ix_H} {k : Nat} (h1 : h.2.2 k = .inl (.int, 1100, .inl f)) (h2 : h.2.2 k = .inl (.int, 1100, .inl g)) : f = g := by
  have := h1.symm.trans h2
  injection this with a
  injection a with a b
  injection b with b c
  injection c
theorem SI_ok (hv : pv P cap X) : ∀ e ∈ X, okE P e := by
  obtain ⟨n, ep, tx, bg, ba, ad, lc, de, mq, nx, la, en, hT⟩ := told_ex P X
  have hg : GT P cap X (n, ep, tx, bg, ba, ad, lc, de, mq, nx, la, en) := hT ▸ pv_all hv
  exact hg.1.2.2.2.1
theorem r_tells {j : Nat} (hj : j < X.length) (hf : eF (X.getD j en0) = P) (hP : P ≤ 8) (hcap : cap ≤ 4000) (hv : pv P cap X) (hb : bv P X) (w : RE h P cap tmo clk cl cut X sy 0 tE tp an (told P (X.take j))) (hd : RDh h (told P (X.take j))) : ev (d + 3) n_X5_tells [.ref 96, .int (nI j)] h (fun u => u.1 = none ∧ FS cW h u.2 ∧ RE u.2 P cap tmo clk cl cut X sy 0 tE tp an (told P (X.take (j + 1))) ∧ RDh u.2 (told P (X.take (j + 1)))) := by
  have hlen := len42 hP hcap hv
  have hokX := (SI_ok hv) _ (getD_mem hj)
  have hokB := hokX.2.2.1 hf
  obtain ⟨n, ep, tx, bg, ba, ad, lc, de, mq, nx, la, en, hT⟩ := told_ex P (X.take j)
  have hg : GT P cap (X.take j) (n, ep, tx, bg, ba, ad, lc, de, mq, nx, la, en) := hT ▸ hv j (by omega)
  have hTs : told P (X.take (j + 1)) = tell (n, ep, tx, bg, ba, ad, lc, de, mq, nx, la, en) (X.getD j en0) := by rw [take_snocE hj, told_snoc, if_pos hf, hT]
  have hbv := hb j hj
  rw [hT] at hbv w hd
  obtain ⟨v1, v3, v4, v5⟩ := hbv hf
  rw [hTs]
  have hw := w
  obtain ⟨ar, wm, hE, hto, hTR, h18, h19⟩ := w
  obtain ⟨g0, g1, g2, g3, g4, g5, -⟩ := hE.2.2 j hj
  obtain ⟨w0, w1, w2, w3, w4, w5, w6, w7, w8, w9, w10, w11, w12, w13, w14, w15, w16, w17, w18, w19, w20, w21⟩ := id wm
  simp only [mcell] at w0
  obtain ⟨d1, d2⟩ := hd _ w21
  obtain ⟨a1, a2, a3, a4, a5, a6, a7, a8⟩ := hg.1
  have hr := hg.2.2.2.2.1
  generalize hee : X.getD j en0 = e at *
  obtain ⟨fF, K, k, E, a, b, oo, pl⟩ := e
  obtain ⟨o1, o2, o3, o4, o5, o6⟩ := hokB
  have v1 : K = 1 → tx k = 0 ∧ b = nx := v1
  have v3 : K = 3 → tx k ≠ 0 := v3
  have v4 : K = 4 → tx k ≠ 0 ∧ b = tx k - 1 ∧ a ≤ 1 := v4
  have v5 : K = 5 → tx k ≠ 0 ∧ b = tx k - 1 := v5
  have g1 : ar 1 j = nI K := g1
  have g2 : ar 2 j = nI k := g2
  have g3 : ar 3 j = nI E := g3
  have g4 : ar 4 j = nI a := g4
  have g5 : ar 5 j = nI b := g5
  have o1 : K ≤ 6 := o1
  have o2 : k < 32 := o2
  have o3 : E < 65536 := o3
  have o4 : a < 2 ^ 31 := o4
  have o5 : b < 2 ^ 31 := o5
  have o6 : K = 3 ∨ K = 6 → a < 64 := o6
  obtain ⟨b1, b2, b3, b4, b5, b6, b7⟩ := a5 k o2
  obtain ⟨t1, t2, t3, t4, t5⟩ := hTR.1 k o2
  refine ev_of q_X5_tells (Nat.le_of_ble_eq_true rfl) ?_
  refine gs_n 1 a_X5_tells_0 rfl ?_
  refine gs_get 4 a_X5_tells_1 f_5_16 (by first | assumption | exact hs_same _ _ _ | exact (hs_ne _ _ (by first | assumption | decide | omega)).trans (by first | assumption | exact hs_same _ _ _ | exact (hs_ne _ _ (by first | assumption | decide | omega)).trans (by first | assumption | exact hs_same _ _ _ | exact (hs_ne _ _ (by first | assumption | decide | omega)).trans (by first | assumption | exact hs_same _ _ _ | exact (hs_ne _ _ (by first | assumption | decide | omega)).trans (by first | assumption | exact hs_same _ _ _))))) rfl rfl ?_
  refine gs_n 5 a_X5_tells_4 rfl ?_
  refine gs_ia j 6 a_X5_tells_5 (by first | assumption | exact hs_same _ _ _ | exact (hs_ne _ _ (by first | assumption | decide | omega)).trans (by first | assumption | exact hs_same _ _ _ | exact (hs_ne _ _ (by first | assumption | decide | omega)).trans (by first | assumption | exact hs_same _ _ _ | exact (hs_ne _ _ (by first | assumption | decide | omega)).trans (by first | assumption | exact hs_same _ _ _ | exact (hs_ne _ _ (by first | assumption | decide | omega)).trans (by first | assumption | exact hs_same _ _ _))))) rfl (by omega) (by omega) rfl ?_
  rw [g2]
  refine gs_n 7 a_X5_tells_6 rfl ?_
  refine gs_n 8 a_X5_tells_7 rfl ?_
  refine gs_get 11 a_X5_tells_8 f_5_13 (by first | assumption | exact hs_same _ _ _ | exact (hs_ne _ _ (by first | assumption | decide | omega)).trans (by first | assumption | exact hs_same _ _ _ | exact (hs_ne _ _ (by first | assumption | decide | omega)).trans (by first | assumption | exact hs_same _ _ _ | exact (hs_ne _ _ (by first | assumption | decide | omega)).trans (by first | assumption | exact hs_same _ _ _ | exact (hs_ne _ _ (by first | assumption | decide | omega)).trans (by first | assumption | exact hs_same _ _ _))))) rfl rfl ?_
  refine gs_n 12 a_X5_tells_11 rfl ?_
  refine gs_ia j 13 a_X5_tells_12 (by first | assumption | exact hs_same _ _ _ | exact (hs_ne _ _ (by first | assumption | decide | omega)).trans (by first | assumption | exact hs_same _ _ _ | exact (hs_ne _ _ (by first | assumption | decide | omega)).trans (by first | assumption | exact hs_same _ _ _ | exact (hs_ne _ _ (by first | assumption | decide | omega)).trans (by first | assumption | exact hs_same _ _ _ | exact (hs_ne _ _ (by first | assumption | decide | omega)).trans (by first | assumption | exact hs_same _ _ _))))) rfl (by omega) (by omega) rfl ?_
  rw [g1]
  rcases (by omega : K = 0 ∨ K = 1 ∨ K = 2 ∨ K = 3 ∨ K = 4 ∨ K = 5 ∨ K = 6) with z | z | z | z | z | z | z <;> subst z
  · refine gs_n 52 a_X5_tells_13 rfl ?_
    have wd := (wm.s8 (upd (ar 8) k (nI 1 &&& 1))).s9 (upd (ar 9) k (nI E))
    refine gs_n 53 a_X5_tells_52 rfl ?_
    refine gs_get 56 a_X5_tells_53 f_5_36 (by first | assumption | exact hs_same _ _ _ | exact (hs_ne _ _ (by first | assumption | decide | omega)).trans (by first | assumption | exact hs_same _ _ _ | exact (hs_ne _ _ (by first | assumption | decide | omega)).trans (by first | assumption | exact hs_same _ _ _ | exact (hs_ne _ _ (by first | assumption | decide | omega)).trans (by first | assumption | exact hs_same _ _ _ | exact (hs_ne _ _ (by first | assumption | decide | omega)).trans (by first | assumption | exact hs_same _ _ _))))) rfl rfl ?_
    refine gs_n 57 a_X5_tells_56 rfl ?_
    refine gs_k (nI 1) 58 a_X5_tells_57 (by decide +kernel) rfl ?_
    refine gs_zs k 59 a_X5_tells_58 (by first | assumption | exact hs_same _ _ _ | exact (hs_ne _ _ (by first | assumption | decide | omega)).trans (by first | assumption | exact hs_same _ _ _ | exact (hs_ne _ _ (by first | assumption | decide | omega)).trans (by first | assumption | exact hs_same _ _ _ | exact (hs_ne _ _ (by first | assumption | decide | omega)).trans (by first | assumption | exact hs_same _ _ _ | exact (hs_ne _ _ (by first | assumption | decide | omega)).trans (by first | assumption | exact hs_same _ _ _))))) rfl (by omega) (by omega) rfl ?_
    refine gs_n 60 a_X5_tells_59 rfl ?_
    refine gs_get 63 a_X5_tells_60 f_5_40 (by first | assumption | exact hs_same _ _ _ | exact (hs_ne _ _ (by first | assumption | decide | omega)).trans (by first | assumption | exact hs_same _ _ _ | exact (hs_ne _ _ (by first | assumption | decide | omega)).trans (by first | assumption | exact hs_same _ _ _ | exact (hs_ne _ _ (by first | assumption | decide | omega)).trans (by first | assumption | exact hs_same _ _ _ | exact (hs_ne _ _ (by first | assumption | decide | omega)).trans (by first | assumption | exact hs_same _ _ _))))) rfl rfl ?_
    refine gs_n 64 a_X5_tells_63 rfl ?_
    refine gs_n 65 a_X5_tells_64 rfl ?_
    refine gs_get 68 a_X5_tells_65 f_5_19 (by first | assumption | exact hs_same _ _ _ | exact (hs_ne _ _ (by first | assumption | decide | omega)).trans (by first | assumption | exact hs_same _ _ _ | exact (hs_ne _ _ (by first | assumption | decide | omega)).trans (by first | assumption | exact hs_same _ _ _ | exact (hs_ne _ _ (by first | assumption | decide | omega)).trans (by first | assumption | exact hs_same _ _ _ | exact (hs_ne _ _ (by first | assumption | decide | omega)).trans (by first | assumption | exact hs_same _ _ _))))) rfl rfl ?_
    refine gs_n 69 a_X5_tells_68 rfl ?_
    refine gs_ia j 70 a_X5_tells_69 (by first | assumption | exact hs_same _ _ _ | exact (hs_ne _ _ (by first | assumption | decide | omega)).trans (by first | assumption | exact hs_same _ _ _ | exact (hs_ne _ _ (by first | assumption | decide | omega)).trans (by first | assumption | exact hs_same _ _ _ | exact (hs_ne _ _ (by first | assumption | decide | omega)).trans (by first | assumption | exact hs_same _ _ _ | exact (hs_ne _ _ (by first | assumption | decide | omega)).trans (by first | assumption | exact hs_same _ _ _))))) rfl (by omega) (by omega) rfl ?_
    rw [g3]
    refine gs_is k 71 a_X5_tells_70 (by first | assumption | exact hs_same _ _ _ | exact (hs_ne _ _ (by first | assumption | decide | omega)).trans (by first | assumption | exact hs_same _ _ _ | exact (hs_ne _ _ (by first | assumption | decide | omega)).trans (by first | assumption | exact hs_same _ _ _ | exact (hs_ne _ _ (by first | assumption | decide | omega)).trans (by first | assumption | exact hs_same _ _ _ | exact (hs_ne _ _ (by first | assumption | decide | omega)).trans (by first | assumption | exact hs_same _ _ _))))) rfl (by omega) (by omega) rfl ?_
    refine gs_n 213 a_X5_tells_71 rfl ?_
    refine gs_vret a_X5_tells_213 rfl ?_
    refine ⟨rfl, ((FS.m _ (by omega)).trans (FS.m _ (by omega))).w, ⟨_, wd, ?_, fun z => absurd z (by omega), ?_, h18, h19⟩, hd.keep ((FS.m _ (by omega)).trans (FS.m _ (by omega))) (fun g q => q)⟩
    · obtain ⟨q1, q2, q3⟩ := hE
      exact ⟨q1, q2, q3⟩
    · obtain ⟨u1, u2, u3, u4⟩ := hTR
      refine ⟨?_, u2, u3, u4⟩
      intro i hi
      by_cases z : i = k
      · subst z
        rw [va_up_self]
        refine ⟨?_, fun _ => ?_, t3, t4, t5⟩
        · show upd (ar 8) i (nI 1 &&& 1) i = _
          rw [upd_s, decide_eq_false (Nat.succ_ne_zero _)]
          decide +kernel
        · show upd (ar 9) i (nI E) i = _
          rw [upd_s, Nat.add_sub_cancel]
      · rw [va_up_ne _ _ z]
        obtain ⟨v1, v2, v3, v4, v5⟩ := u1 i hi
        refine ⟨?_, fun q => ?_, v3, v4, v5⟩
        · show upd (ar 8) k (nI 1 &&& 1) i = _
          rw [upd_n z]; exact v1
        · show upd (ar 9) k (nI E) i = _
          rw [upd_n z]; exact v2 q
  · refine gs_n 74 a_X5_tells_13 rfl ?_
    obtain ⟨ht0, hbn⟩ := v1 rfl
    subst hbn
    have had : va_up ad k (nI 0) = ad := by
      funext i
      by_cases z : i = k
      · subst z; rw [va_up_self, (b7 ht0).2.1]
      · rw [va_up_ne _ _ z]
    refine gs_n 75 a_X5_tells_74 rfl ?_
    refine gs_n 76 a_X5_tells_75 rfl ?_
    refine gs_n 77 a_X5_tells_76 rfl ?_
    refine gs_get 80 a_X5_tells_77 f_5_25 (by first | assumption | exact hs_same _ _ _ | exact (hs_ne _ _ (by first | assumption | decide | omega)).trans (by first | assumption | exact hs_same _ _ _ | exact (hs_ne _ _ (by first | assumption | decide | omega)).trans (by first | assumption | exact hs_same _ _ _ | exact (hs_ne _ _ (by first | assumption | decide | omega)).trans (by first | assumption | exact hs_same _ _ _ | exact (hs_ne _ _ (by first | assumption | decide | omega)).trans (by first | assumption | exact hs_same _ _ _))))) rfl rfl ?_
    refine gs_n 81 a_X5_tells_80 rfl ?_
    refine gs_ia j 82 a_X5_tells_81 (by first | assumption | exact hs_same _ _ _ | exact (hs_ne _ _ (by first | assumption | decide | omega)).trans (by first | assumption | exact hs_same _ _ _ | exact (hs_ne _ _ (by first | assumption | decide | omega)).trans (by first | assumption | exact hs_same _ _ _ | exact (hs_ne _ _ (by first | assumption | decide | omega)).trans (by first | assumption | exact hs_same _ _ _ | exact (hs_ne _ _ (by first | assumption | decide | omega)).trans (by first | assumption | exact hs_same _ _ _))))) rfl (by omega) (by omega) rfl ?_
    rw [g5]
    refine gs_n 83 a_X5_tells_82 rfl ?_
    refine gs_get 86 a_X5_tells_83 f_5_22 (by first | assumption | exact hs_same _ _ _ | exact (hs_ne _ _ (by first | assumption | decide | omega)).trans (by first | assumption | exact hs_same _ _ _ | exact (hs_ne _ _ (by first | assumption | decide | omega)).trans (by first | assumption | exact hs_same _ _ _ | exact (hs_ne _ _ (by first | assumption | decide | omega)).trans (by first | assumption | exact hs_same _ _ _ | exact (hs_ne _ _ (by first | assumption | decide | omega)).trans (by first | assumption | exact hs_same _ _ _))))) rfl rfl ?_
    refine gs_n 87 a_X5_tells_86 rfl ?_
    refine gs_ia j 88 a_X5_tells_87 (by first | assumption | exact hs_same _ _ _ | exact (hs_ne _ _ (by first | assumption | decide | omega)).trans (by first | assumption | exact hs_same _ _ _ | exact (hs_ne _ _ (by first | assumption | decide | omega)).trans (by first | assumption | exact hs_same _ _ _ | exact (hs_ne _ _ (by first | assumption | decide | omega)).trans (by first | assumption | exact hs_same _ _ _ | exact (hs_ne _ _ (by first | assumption | decide | omega)).trans (by first | assumption | exact hs_same _ _ _))))) rfl (by omega) (by omega) rfl ?_
    rw [g4]
    refine gs_cv 91 a_X5_tells_88 k_5_161 q_X5_begins (r_begins o2 rfl (by omega) (fun i hi => (a5 i hi).2.1) hw) rfl rfl rfl (by simp [Value.category]) (by first | assumption | exact hs_same _ _ _ | exact (hs_ne _ _ (by first | assumption | decide | omega)).trans (by first | assumption | exact hs_same _ _ _ | exact (hs_ne _ _ (by first | assumption | decide | omega)).trans (by first | assumption | exact hs_same _ _ _ | exact (hs_ne _ _ (by first | assumption | decide | omega)).trans (by first | assumption | exact hs_same _ _ _ | exact (hs_ne _ _ (by first | assumption | decide | omega)).trans (by first | assumption | exact hs_same _ _ _))))) rfl (fun v h2 hp => ?_)
    obtain ⟨e1, hF2, w2'⟩ := hp
    simp only at e1
    subst e1
    refine gs_n 213 a_X5_tells_91 rfl ?_
    refine gs_vret a_X5_tells_213 rfl ?_
    rw [had] at w2'
    refine ⟨rfl, hF2.w, w2', hd.keep hF2 ?_⟩
    rintro g ⟨q1, q2⟩
    refine ⟨?_, fun t ht => q2 t (by omega)⟩
    intro i hi
    by_cases z : i = k
    · subst z
      rw [va_up_self]
      intro _
      rw [Nat.add_sub_cancel, q2 b (Nat.le_refl _) (by omega), (b7 ht0).2.2.2]
      rfl
    · rw [va_up_ne _ _ z]
      exact q1 i hi
  · refine gs_n 94 a_X5_tells_13 rfl ?_
    have wd := wm.s12 (upd (ar 12) k (ad k ||| (nI 1 <<< (nI a &&& 31))))
    refine gs_n 95 a_X5_tells_94 rfl ?_
    refine gs_get 98 a_X5_tells_95 f_5_49 (by first | assumption | exact hs_same _ _ _ | exact (hs_ne _ _ (by first | assumption | decide | omega)).trans (by first | assumption | exact hs_same _ _ _ | exact (hs_ne _ _ (by first | assumption | decide | omega)).trans (by first | assumption | exact hs_same _ _ _ | exact (hs_ne _ _ (by first | assumption | decide | omega)).trans (by first | assumption | exact hs_same _ _ _ | exact (hs_ne _ _ (by first | assumption | decide | omega)).trans (by first | assumption | exact hs_same _ _ _))))) rfl rfl ?_
    refine gs_n 99 a_X5_tells_98 rfl ?_
    refine gs_n 100 a_X5_tells_99 rfl ?_
    refine gs_ia k 101 a_X5_tells_100 (by first | assumption | exact hs_same _ _ _ | exact (hs_ne _ _ (by first | assumption | decide | omega)).trans (by first | assumption | exact hs_same _ _ _ | exact (hs_ne _ _ (by first | assumption | decide | omega)).trans (by first | assumption | exact hs_same _ _ _ | exact (hs_ne _ _ (by first | assumption | decide | omega)).trans (by first | assumption | exact hs_same _ _ _ | exact (hs_ne _ _ (by first | assumption | decide | omega)).trans (by first | assumption | exact hs_same _ _ _))))) rfl (by omega) (by omega) rfl ?_
    rw [t5]
    refine gs_k (nI 1) 102 a_X5_tells_101 (by decide +kernel) rfl ?_
    refine gs_n 103 a_X5_tells_102 rfl ?_
    refine gs_get 106 a_X5_tells_103 f_5_22 (by first | assumption | exact hs_same _ _ _ | exact (hs_ne _ _ (by first | assumption | decide | omega)).trans (by first | assumption | exact hs_same _ _ _ | exact (hs_ne _ _ (by first | assumption | decide | omega)).trans (by first | assumption | exact hs_same _ _ _ | exact (hs_ne _ _ (by first | assumption | decide | omega)).trans (by first | assumption | exact hs_same _ _ _ | exact (hs_ne _ _ (by first | assumption | decide | omega)).trans (by first | assumption | exact hs_same _ _ _))))) rfl rfl ?_
    refine gs_n 107 a_X5_tells_106 rfl ?_
    refine gs_ia j 108 a_X5_tells_107 (by first | assumption | exact hs_same _ _ _ | exact (hs_ne _ _ (by first | assumption | decide | omega)).trans (by first | assumption | exact hs_same _ _ _ | exact (hs_ne _ _ (by first | assumption | decide | omega)).trans (by first | assumption | exact hs_same _ _ _ | exact (hs_ne _ _ (by first | assumption | decide | omega)).trans (by first | assumption | exact hs_same _ _ _ | exact (hs_ne _ _ (by first | assumption | decide | omega)).trans (by first | assumption | exact hs_same _ _ _))))) rfl (by omega) (by omega) rfl ?_
    rw [g4]
    refine gs_n 109 a_X5_tells_108 rfl ?_
    refine gs_n 110 a_X5_tells_109 rfl ?_
    refine gs_is k 111 a_X5_tells_110 (by first | assumption | exact hs_same _ _ _ | exact (hs_ne _ _ (by first | assumption | decide | omega)).trans (by first | assumption | exact hs_same _ _ _ | exact (hs_ne _ _ (by first | assumption | decide | omega)).trans (by first | assumption | exact hs_same _ _ _ | exact (hs_ne _ _ (by first | assumption | decide | omega)).trans (by first | assumption | exact hs_same _ _ _ | exact (hs_ne _ _ (by first | assumption | decide | omega)).trans (by first | assumption | exact hs_same _ _ _))))) rfl (by omega) (by omega) rfl ?_
    refine gs_n 213 a_X5_tells_111 rfl ?_
    refine gs_vret a_X5_tells_213 rfl ?_
    refine ⟨rfl, (FS.m _ (by omega)).w, ⟨_, wd, EA_up (by omega) hE, fun z => absurd z (by omega), ?_, h18, h19⟩, hd.keep (FS.m _ (by omega)) (fun g q => q)⟩
    obtain ⟨u1, u2, u3, u4⟩ := hTR
    refine ⟨?_, u2, u3, u4⟩
    intro i hi
    obtain ⟨v1, v2, v3, v4, v5⟩ := u1 i hi
    refine ⟨v1, v2, v3, v4, ?_⟩
    by_cases z : i = k
    · subst z
      show upd (ar 12) i _ i = _
      rw [upd_s, va_up_self]
    · show upd (ar 12) k _ i = _
      rw [upd_n z, va_up_ne _ _ z]; exact v5
  · refine gs_n 114 a_X5_tells_13 rfl ?_
    have ht0 := v3 rfl
    rw [m1_p ht0] at t3
    refine gs_n 115 a_X5_tells_114 rfl ?_
    refine gs_n 116 a_X5_tells_115 rfl ?_
    refine gs_get 119 a_X5_tells_116 f_5_43 (by first | assumption | exact hs_same _ _ _ | exact (hs_ne _ _ (by first | assumption | decide | omega)).trans (by first | assumption | exact hs_same _ _ _ | exact (hs_ne _ _ (by first | assumption | decide | omega)).trans (by first | assumption | exact hs_same _ _ _ | exact (hs_ne _ _ (by first | assumption | decide | omega)).trans (by first | assumption | exact hs_same _ _ _ | exact (hs_ne _ _ (by first | assumption | decide | omega)).trans (by first | assumption | exact hs_same _ _ _))))) rfl rfl ?_
    refine gs_n 120 a_X5_tells_119 rfl ?_
    refine gs_ia k 121 a_X5_tells_120 (by first | assumption | exact hs_same _ _ _ | exact (hs_ne _ _ (by first | assumption | decide | omega)).trans (by first | assumption | exact hs_same _ _ _ | exact (hs_ne _ _ (by first | assumption | decide | omega)).trans (by first | assumption | exact hs_same _ _ _ | exact (hs_ne _ _ (by first | assumption | decide | omega)).trans (by first | assumption | exact hs_same _ _ _ | exact (hs_ne _ _ (by first | assumption | decide | omega)).trans (by first | assumption | exact hs_same _ _ _))))) rfl (by omega) (by omega) rfl ?_
    rw [t3]
    refine gs_n 122 a_X5_tells_121 rfl ?_
    refine gs_get 125 a_X5_tells_122 f_5_22 (by first | assumption | exact hs_same _ _ _ | exact (hs_ne _ _ (by first | assumption | decide | omega)).trans (by first | assumption | exact hs_same _ _ _ | exact (hs_ne _ _ (by first | assumption | decide | omega)).trans (by first | assumption | exact hs_same _ _ _ | exact (hs_ne _ _ (by first | assumption | decide | omega)).trans (by first | assumption | exact hs_same _ _ _ | exact (hs_ne _ _ (by first | assumption | decide | omega)).trans (by first | assumption | exact hs_same _ _ _))))) rfl rfl ?_
    refine gs_n 126 a_X5_tells_125 rfl ?_
    refine gs_ia j 127 a_X5_tells_126 (by first | assumption | exact hs_same _ _ _ | exact (hs_ne _ _ (by first | assumption | decide | omega)).trans (by first | assumption | exact hs_same _ _ _ | exact (hs_ne _ _ (by first | assumption | decide | omega)).trans (by first | assumption | exact hs_same _ _ _ | exact (hs_ne _ _ (by first | assumption | decide | omega)).trans (by first | assumption | exact hs_same _ _ _ | exact (hs_ne _ _ (by first | assumption | decide | omega)).trans (by first | assumption | exact hs_same _ _ _))))) rfl (by omega) (by omega) rfl ?_
    rw [g4]
    refine gs_n 128 a_X5_tells_127 rfl ?_
    refine gs_get 131 a_X5_tells_128 f_5_25 (by first | assumption | exact hs_same _ _ _ | exact (hs_ne _ _ (by first | assumption | decide | omega)).trans (by first | assumption | exact hs_same _ _ _ | exact (hs_ne _ _ (by first | assumption | decide | omega)).trans (by first | assumption | exact hs_same _ _ _ | exact (hs_ne _ _ (by first | assumption | decide | omega)).trans (by first | assumption | exact hs_same _ _ _ | exact (hs_ne _ _ (by first | assumption | decide | omega)).trans (by first | assumption | exact hs_same _ _ _))))) rfl rfl ?_
    refine gs_n 132 a_X5_tells_131 rfl ?_
    refine gs_ia j 133 a_X5_tells_132 (by first | assumption | exact hs_same _ _ _ | exact (hs_ne _ _ (by first | assumption | decide | omega)).trans (by first | assumption | exact hs_same _ _ _ | exact (hs_ne _ _ (by first | assumption | decide | omega)).trans (by first | assumption | exact hs_same _ _ _ | exact (hs_ne _ _ (by first | assumption | decide | omega)).trans (by first | assumption | exact hs_same _ _ _ | exact (hs_ne _ _ (by first | assumption | decide | omega)).trans (by first | assumption | exact hs_same _ _ _))))) rfl (by omega) (by omega) rfl ?_
    rw [g5]
    refine gs_cv 136 a_X5_tells_133 k_5_188 q_X5_later (r_lat (t := tx k - 1) (a := a) (b := b) (by omega) hw) rfl rfl rfl (by simp [Value.category]) (by first | assumption | exact hs_same _ _ _ | exact (hs_ne _ _ (by first | assumption | decide | omega)).trans (by first | assumption | exact hs_same _ _ _ | exact (hs_ne _ _ (by first | assumption | decide | omega)).trans (by first | assumption | exact hs_same _ _ _ | exact (hs_ne _ _ (by first | assumption | decide | omega)).trans (by first | assumption | exact hs_same _ _ _ | exact (hs_ne _ _ (by first | assumption | decide | omega)).trans (by first | assumption | exact hs_same _ _ _))))) rfl (fun v h2 hp => ?_)
    obtain ⟨e1, hF2, w2'⟩ := hp
    simp only at e1
    subst e1
    refine gs_n 213 a_X5_tells_136 rfl ?_
    refine gs_vret a_X5_tells_213 rfl ?_
    exact ⟨rfl, hF2.w, w2', hd.keep hF2 (fun g q => q)⟩
  · refine gs_n 139 a_X5_tells_13 rfl ?_
    obtain ⟨ht0, hbt, ha1⟩ := v4 rfl
    have fin : ∀ v, v = 3 - (a + 1) → gs none (d + 2) mD_X5_tells (164, [(2, .int (nI k)), (0, .ref 96), (1, .int (nI j))], [.int (nI v), .int (nI b), .ref 117], h) (fun u => u.1 = none ∧ FS cW h u.2 ∧ RE u.2 P cap tmo clk cl cut X sy 0 tE tp an (tell (n, ep, tx, bg, ba, ad, lc, de, mq, nx, la, en) (fF, 4, k, E, a, b, oo, pl)) ∧ RDh u.2 (tell (n, ep, tx, bg, ba, ad, lc, de, mq, nx, la, en) (fF, 4, k, E, a, b, oo, pl))) := by
      intro v hv'
      have wd := wm.s20' (upd (ar 20) b (nI v))
      refine gs_is b 165 a_X5_tells_164 (by first | assumption | exact hs_same _ _ _ | exact (hs_ne _ _ (by first | assumption | decide | omega)).trans (by first | assumption | exact hs_same _ _ _ | exact (hs_ne _ _ (by first | assumption | decide | omega)).trans (by first | assumption | exact hs_same _ _ _ | exact (hs_ne _ _ (by first | assumption | decide | omega)).trans (by first | assumption | exact hs_same _ _ _ | exact (hs_ne _ _ (by first | assumption | decide | omega)).trans (by first | assumption | exact hs_same _ _ _))))) rfl (by omega) (by omega) rfl ?_
      refine gs_n 213 a_X5_tells_165 rfl ?_
      refine gs_vret a_X5_tells_213 rfl ?_
      refine ⟨rfl, FS.w1 _ (by omega), ⟨_, wd, EA_up (by omega) hE, fun z => absurd z (by omega), hTR, h18, h19⟩, ?_⟩
      intro g hg
      have := inl_inj (hs_same _ _ _) hg
      subst this
      refine ⟨?_, ?_⟩
      · intro i hi hti
        by_cases z : i = k
        · subst z
          rw [va_up_self, ← hbt, upd_s, if_neg (by omega), hv']
        · rw [va_up_ne _ _ z, upd_n (fun q => z (a6 i k hi o2 (by omega) hti))]
          exact d1 i hi hti
      · intro t ht htt
        rw [upd_n (by omega)]
        exact d2 t ht htt
    refine gs_n 140 a_X5_tells_139 rfl ?_
    refine gs_get 143 a_X5_tells_140 f_5_73 (by first | assumption | exact hs_same _ _ _ | exact (hs_ne _ _ (by first | assumption | decide | omega)).trans (by first | assumption | exact hs_same _ _ _ | exact (hs_ne _ _ (by first | assumption | decide | omega)).trans (by first | assumption | exact hs_same _ _ _ | exact (hs_ne _ _ (by first | assumption | decide | omega)).trans (by first | assumption | exact hs_same _ _ _ | exact (hs_ne _ _ (by first | assumption | decide | omega)).trans (by first | assumption | exact hs_same _ _ _))))) rfl rfl ?_
    refine gs_n 144 a_X5_tells_143 rfl ?_
    refine gs_get 147 a_X5_tells_144 f_5_25 (by first | assumption | exact hs_same _ _ _ | exact (hs_ne _ _ (by first | assumption | decide | omega)).trans (by first | assumption | exact hs_same _ _ _ | exact (hs_ne _ _ (by first | assumption | decide | omega)).trans (by first | assumption | exact hs_same _ _ _ | exact (hs_ne _ _ (by first | assumption | decide | omega)).trans (by first | assumption | exact hs_same _ _ _ | exact (hs_ne _ _ (by first | assumption | decide | omega)).trans (by first | assumption | exact hs_same _ _ _))))) rfl rfl ?_
    refine gs_n 148 a_X5_tells_147 rfl ?_
    refine gs_ia j 149 a_X5_tells_148 (by first | assumption | exact hs_same _ _ _ | exact (hs_ne _ _ (by first | assumption | decide | omega)).trans (by first | assumption | exact hs_same _ _ _ | exact (hs_ne _ _ (by first | assumption | decide | omega)).trans (by first | assumption | exact hs_same _ _ _ | exact (hs_ne _ _ (by first | assumption | decide | omega)).trans (by first | assumption | exact hs_same _ _ _ | exact (hs_ne _ _ (by first | assumption | decide | omega)).trans (by first | assumption | exact hs_same _ _ _))))) rfl (by omega) (by omega) rfl ?_
    rw [g5]
    refine gs_n 150 a_X5_tells_149 rfl ?_
    refine gs_get 153 a_X5_tells_150 f_5_22 (by first | assumption | exact hs_same _ _ _ | exact (hs_ne _ _ (by first | assumption | decide | omega)).trans (by first | assumption | exact hs_same _ _ _ | exact (hs_ne _ _ (by first | assumption | decide | omega)).trans (by first | assumption | exact hs_same _ _ _ | exact (hs_ne _ _ (by first | assumption | decide | omega)).trans (by first | assumption | exact hs_same _ _ _ | exact (hs_ne _ _ (by first | assumption | decide | omega)).trans (by first | assumption | exact hs_same _ _ _))))) rfl rfl ?_
    refine gs_n 154 a_X5_tells_153 rfl ?_
    refine gs_ia j 155 a_X5_tells_154 (by first | assumption | exact hs_same _ _ _ | exact (hs_ne _ _ (by first | assumption | decide | omega)).trans (by first | assumption | exact hs_same _ _ _ | exact (hs_ne _ _ (by first | assumption | decide | omega)).trans (by first | assumption | exact hs_same _ _ _ | exact (hs_ne _ _ (by first | assumption | decide | omega)).trans (by first | assumption | exact hs_same _ _ _ | exact (hs_ne _ _ (by first | assumption | decide | omega)).trans (by first | assumption | exact hs_same _ _ _))))) rfl (by omega) (by omega) rfl ?_
    rw [g4]
    refine gs_k (nI 1) 156 a_X5_tells_155 (by decide +kernel) rfl ?_
    refine gs_ic 163 159 a_X5_tells_156 rfl rfl (fun c156 => ?_) (fun c156 => ?_)
    · have c156 : ¬ nI a = nI 1 := c156
      rw [nI_eq (by omega) (by omega)] at c156
      refine gs_k (nI 2) 164 a_X5_tells_163 (by decide +kernel) rfl ?_
      refine gs_w [(2, .int (nI k)), (0, .ref 96), (1, .int (nI j))] (by simp [ix_nd]) (by intro x hx; simp only [List.mem_cons, List.not_mem_nil, or_false] at hx; rcases hx with rfl | rfl | rfl <;> rfl) ?_
      exact fin 2 (by omega)
    · have c156 : nI a = nI 1 := Classical.byContradiction c156
      rw [nI_eq (by omega) (by omega)] at c156
      refine gs_k (nI 1) 160 a_X5_tells_159 (by decide +kernel) rfl ?_
      refine gs_n 164 a_X5_tells_160 rfl ?_
      refine gs_w [(2, .int (nI k)), (0, .ref 96), (1, .int (nI j))] (by simp [ix_nd]) (by intro x hx; simp only [List.mem_cons, List.not_mem_nil, or_false] at hx; rcases hx with rfl | rfl | rfl <;> rfl) ?_
      exact fin 1 (by omega)
  · refine gs_n 168 a_X5_tells_13 rfl ?_
    obtain ⟨ht0, hbt⟩ := v5 rfl
    have fin : ∀ c : Bool, (c = true ↔ de k = 2) → gs none (d + 2) mD_X5_tells (190, [(2, .int (nI k)), (0, .ref 96), (1, .int (nI j))], [.int (b01 c), .int (nI k), .ref 96], h) (fun u => u.1 = none ∧ FS cW h u.2 ∧ RE u.2 P cap tmo clk cl cut X sy 0 tE tp an (tell (n, ep, tx, bg, ba, ad, lc, de, mq, nx, la, en) (fF, 5, k, E, a, b, oo, pl)) ∧ RDh u.2 (tell (n, ep, tx, bg, ba, ad, lc, de, mq, nx, la, en) (fF, 5, k, E, a, b, oo, pl))) := by
      intro c hc
      refine gs_cv 193 a_X5_tells_190 k_5_133 q_X5_closes (r_closes c o2 ht0 b2 (by omega) (fun i hi q => a6 i k hi o2 q (by rw [q]; exact ht0)) a7 (by omega) hw) rfl rfl rfl (by simp [Value.category]) (by first | assumption | exact hs_same _ _ _ | exact (hs_ne _ _ (by first | assumption | decide | omega)).trans (by first | assumption | exact hs_same _ _ _ | exact (hs_ne _ _ (by first | assumption | decide | omega)).trans (by first | assumption | exact hs_same _ _ _ | exact (hs_ne _ _ (by first | assumption | decide | omega)).trans (by first | assumption | exact hs_same _ _ _ | exact (hs_ne _ _ (by first | assumption | decide | omega)).trans (by first | assumption | exact hs_same _ _ _))))) rfl (fun v h2 hp => ?_)
      obtain ⟨e1, hF2, w2'⟩ := hp
      simp only at e1
      subst e1
      refine gs_n 213 a_X5_tells_193 rfl ?_
      refine gs_vret a_X5_tells_213 rfl ?_
      have e5 : (de k = 2) = (c = true) := propext hc.symm
      refine ⟨rfl, hF2.w, ?_, hd.keep hF2 ?_⟩
      · obtain ⟨ar3, q1, q2, q3, q4, q5, q6⟩ := w2'
        refine ⟨ar3, q1, q2, q3, ?_, q5, q6⟩
        obtain ⟨v1, v2, v3, v4⟩ := q4
        refine ⟨?_, ?_, ?_, v4⟩
        · intro i hi
          obtain ⟨x1, x2, x3, x4, x5⟩ := v1 i hi
          refine ⟨x1, x2, x3, fun q => ?_, x5⟩
          by_cases z : i = k
          · subst z; rw [va_up_self] at q; exact absurd rfl q
          · rw [va_up_ne _ _ z]; exact x4 q
        · intro i hi
          simp only [e5]
          exact v2 i hi
        · intro t htt
          simp only [e5]
          exact v3 t htt
      · rintro g ⟨q1, q2⟩
        refine ⟨?_, q2⟩
        intro i hi
        by_cases z : i = k
        · subst z
          rw [va_up_self]
          intro q
          exact absurd rfl q
        · rw [va_up_ne _ _ z, va_up_ne _ _ z]
          exact q1 i hi
    have hdd := d1 k o2 ht0
    refine gs_n 169 a_X5_tells_168 rfl ?_
    refine gs_n 170 a_X5_tells_169 rfl ?_
    refine gs_n 171 a_X5_tells_170 rfl ?_
    refine gs_get 174 a_X5_tells_171 f_5_73 (by first | assumption | exact hs_same _ _ _ | exact (hs_ne _ _ (by first | assumption | decide | omega)).trans (by first | assumption | exact hs_same _ _ _ | exact (hs_ne _ _ (by first | assumption | decide | omega)).trans (by first | assumption | exact hs_same _ _ _ | exact (hs_ne _ _ (by first | assumption | decide | omega)).trans (by first | assumption | exact hs_same _ _ _ | exact (hs_ne _ _ (by first | assumption | decide | omega)).trans (by first | assumption | exact hs_same _ _ _))))) rfl rfl ?_
    refine gs_n 175 a_X5_tells_174 rfl ?_
    refine gs_get 178 a_X5_tells_175 f_5_25 (by first | assumption | exact hs_same _ _ _ | exact (hs_ne _ _ (by first | assumption | decide | omega)).trans (by first | assumption | exact hs_same _ _ _ | exact (hs_ne _ _ (by first | assumption | decide | omega)).trans (by first | assumption | exact hs_same _ _ _ | exact (hs_ne _ _ (by first | assumption | decide | omega)).trans (by first | assumption | exact hs_same _ _ _ | exact (hs_ne _ _ (by first | assumption | decide | omega)).trans (by first | assumption | exact hs_same _ _ _))))) rfl rfl ?_
    refine gs_n 179 a_X5_tells_178 rfl ?_
    refine gs_ia j 180 a_X5_tells_179 (by first | assumption | exact hs_same _ _ _ | exact (hs_ne _ _ (by first | assumption | decide | omega)).trans (by first | assumption | exact hs_same _ _ _ | exact (hs_ne _ _ (by first | assumption | decide | omega)).trans (by first | assumption | exact hs_same _ _ _ | exact (hs_ne _ _ (by first | assumption | decide | omega)).trans (by first | assumption | exact hs_same _ _ _ | exact (hs_ne _ _ (by first | assumption | decide | omega)).trans (by first | assumption | exact hs_same _ _ _))))) rfl (by omega) (by omega) rfl ?_
    rw [g5, hbt]
    refine gs_ia (tx k - 1) 181 a_X5_tells_180 (by first | assumption | exact hs_same _ _ _ | exact (hs_ne _ _ (by first | assumption | decide | omega)).trans (by first | assumption | exact hs_same _ _ _ | exact (hs_ne _ _ (by first | assumption | decide | omega)).trans (by first | assumption | exact hs_same _ _ _ | exact (hs_ne _ _ (by first | assumption | decide | omega)).trans (by first | assumption | exact hs_same _ _ _ | exact (hs_ne _ _ (by first | assumption | decide | omega)).trans (by first | assumption | exact hs_same _ _ _))))) rfl (by omega) (by omega) rfl ?_
    rw [hdd]
    refine gs_k (nI 1) 182 a_X5_tells_181 (by decide +kernel) rfl ?_
    refine gs_ic 189 185 a_X5_tells_182 rfl rfl (fun c182 => ?_) (fun c182 => ?_)
    · have c182 : ¬ nI (if de k = 0 then 0 else 3 - de k) = nI 1 := c182
      rw [nI_eq (by split <;> omega) (by omega)] at c182
      refine gs_k (nI 0) 190 a_X5_tells_189 (by decide +kernel) rfl ?_
      refine gs_w [(2, .int (nI k)), (0, .ref 96), (1, .int (nI j))] (by simp [ix_nd]) (by intro x hx; simp only [List.mem_cons, List.not_mem_nil, or_false] at hx; rcases hx with rfl | rfl | rfl <;> rfl) ?_
      exact fin false ⟨fun q => absurd q (by simp), fun q => absurd (by rw [q]; rfl) c182⟩
    · have c182 : nI (if de k = 0 then 0 else 3 - de k) = nI 1 := Classical.byContradiction c182
      rw [nI_eq (by split <;> omega) (by omega)] at c182
      refine gs_k (nI 1) 186 a_X5_tells_185 (by decide +kernel) rfl ?_
      refine gs_n 190 a_X5_tells_186 rfl ?_
      refine gs_w [(2, .int (nI k)), (0, .ref 96), (1, .int (nI j))] (by simp [ix_nd]) (by intro x hx; simp only [List.mem_cons, List.not_mem_nil, or_false] at hx; rcases hx with rfl | rfl | rfl <;> rfl) ?_
      exact fin true ⟨fun _ => by split at c182 <;> omega, fun _ => rfl⟩
  · refine gs_n 196 a_X5_tells_13 rfl ?_
    have wd := wm.s13 (upd (ar 13) a (nI b))
    refine gs_n 197 a_X5_tells_196 rfl ?_
    refine gs_get 200 a_X5_tells_197 f_5_52 (by first | assumption | exact hs_same _ _ _ | exact (hs_ne _ _ (by first | assumption | decide | omega)).trans (by first | assumption | exact hs_same _ _ _ | exact (hs_ne _ _ (by first | assumption | decide | omega)).trans (by first | assumption | exact hs_same _ _ _ | exact (hs_ne _ _ (by first | assumption | decide | omega)).trans (by first | assumption | exact hs_same _ _ _ | exact (hs_ne _ _ (by first | assumption | decide | omega)).trans (by first | assumption | exact hs_same _ _ _))))) rfl rfl ?_
    refine gs_n 201 a_X5_tells_200 rfl ?_
    refine gs_get 204 a_X5_tells_201 f_5_22 (by first | assumption | exact hs_same _ _ _ | exact (hs_ne _ _ (by first | assumption | decide | omega)).trans (by first | assumption | exact hs_same _ _ _ | exact (hs_ne _ _ (by first | assumption | decide | omega)).trans (by first | assumption | exact hs_same _ _ _ | exact (hs_ne _ _ (by first | assumption | decide | omega)).trans (by first | assumption | exact hs_same _ _ _ | exact (hs_ne _ _ (by first | assumption | decide | omega)).trans (by first | assumption | exact hs_same _ _ _))))) rfl rfl ?_
    refine gs_n 205 a_X5_tells_204 rfl ?_
    refine gs_ia j 206 a_X5_tells_205 (by first | assumption | exact hs_same _ _ _ | exact (hs_ne _ _ (by first | assumption | decide | omega)).trans (by first | assumption | exact hs_same _ _ _ | exact (hs_ne _ _ (by first | assumption | decide | omega)).trans (by first | assumption | exact hs_same _ _ _ | exact (hs_ne _ _ (by first | assumption | decide | omega)).trans (by first | assumption | exact hs_same _ _ _ | exact (hs_ne _ _ (by first | assumption | decide | omega)).trans (by first | assumption | exact hs_same _ _ _))))) rfl (by omega) (by omega) rfl ?_
    rw [g4]
    refine gs_n 207 a_X5_tells_206 rfl ?_
    refine gs_get 210 a_X5_tells_207 f_5_25 (by first | assumption | exact hs_same _ _ _ | exact (hs_ne _ _ (by first | assumption | decide | omega)).trans (by first | assumption | exact hs_same _ _ _ | exact (hs_ne _ _ (by first | assumption | decide | omega)).trans (by first | assumption | exact hs_same _ _ _ | exact (hs_ne _ _ (by first | assumption | decide | omega)).trans (by first | assumption | exact hs_same _ _ _ | exact (hs_ne _ _ (by first | assumption | decide | omega)).trans (by first | assumption | exact hs_same _ _ _))))) rfl rfl ?_
    refine gs_n 211 a_X5_tells_210 rfl ?_
    refine gs_ia j 212 a_X5_tells_211 (by first | assumption | exact hs_same _ _ _ | exact (hs_ne _ _ (by first | assumption | decide | omega)).trans (by first | assumption | exact hs_same _ _ _ | exact (hs_ne _ _ (by first | assumption | decide | omega)).trans (by first | assumption | exact hs_same _ _ _ | exact (hs_ne _ _ (by first | assumption | decide | omega)).trans (by first | assumption | exact hs_same _ _ _ | exact (hs_ne _ _ (by first | assumption | decide | omega)).trans (by first | assumption | exact hs_same _ _ _))))) rfl (by omega) (by omega) rfl ?_
    rw [g5]
    refine gs_is a 213 a_X5_tells_212 (by first | assumption | exact hs_same _ _ _ | exact (hs_ne _ _ (by first | assumption | decide | omega)).trans (by first | assumption | exact hs_same _ _ _ | exact (hs_ne _ _ (by first | assumption | decide | omega)).trans (by first | assumption | exact hs_same _ _ _ | exact (hs_ne _ _ (by first | assumption | decide | omega)).trans (by first | assumption | exact hs_same _ _ _ | exact (hs_ne _ _ (by first | assumption | decide | omega)).trans (by first | assumption | exact hs_same _ _ _))))) rfl (by omega) (by omega) rfl ?_
    refine gs_vret a_X5_tells_213 rfl ?_
    refine ⟨rfl, (FS.m _ (by omega)).w, ⟨_, wd, EA_up (by omega) hE, fun z => absurd z (by omega), ?_, h18, h19⟩, hd.keep (FS.m _ (by omega)) (fun g q => q)⟩
    obtain ⟨u1, u2, u3, u4⟩ := hTR
    refine ⟨u1, ?_, u3, u4⟩
    intro i hi
    by_cases z : i = a
    · subst z
      show upd (ar 13) i _ i = _
      rw [upd_s, va_up_self, m1_s]
    · show upd (ar 13) a _ i = _
      rw [upd_n z, va_up_ne _ _ z]; exact u2 i hi
end R14
