/-! The reference: forgets, crash, tells, open, format -/
section R13
variable {d : Nat} {h : ix_H} {P cap tmo clk cut sy torn : Nat} {cl : Bool} {X : List En} {tE : En} {tp an : List Nat} {n nx : Nat} {ep tx bg ba lc de mq en : Nat → Nat} {ad : Nat → Int32} {la : List (Nat × Nat × Nat)} {T : TS} {ar : Nat → Nat → Int32} {a0 a1 a2 a3 : Nat} {a4 : Bool} {a5 a6 a7 a8 a9 a10 a11 a12 : Nat} {s : MS}
theorem EA_same {ar' : Nat → Nat → Int32} (hq : ∀ q, q < 8 → ar' q = ar q) (w : EA P ar X) : EA P ar' X := by
  refine ⟨w.1, w.2.1, fun i hi => ?_⟩
  have := w.2.2 i hi
  unfold AtA at this ⊢
  rw [hq 0 (by omega), hq 1 (by omega), hq 2 (by omega), hq 3 (by omega), hq 4 (by omega), hq 5 (by omega), hq 6 (by omega), hq 7 (by omega)]
  exact this
theorem AtA_same {ar' : Nat → Nat → Int32} {i : Nat} {e : En} (hq : ∀ q, q < 8 → ar' q = ar q) (w : AtA ar i e) : AtA ar' i e := by
  unfold AtA at w ⊢
  rw [hq 0 (by omega), hq 1 (by omega), hq 2 (by omega), hq 3 (by omega), hq 4 (by omega), hq 5 (by omega), hq 6 (by omega), hq 7 (by omega)]
  exact w
theorem l_forg2 {h0 : ix_H} {Q : ix_O → Prop} (A : Nat → Nat → Int32) (kk : ∀ h2 g, FS cM h0 h2 → MW h2 s (va_up A 13 g) → (∀ x, x < 64 → g x = -1) → gs none d mD_X5_forgets (80, [(0, .ref 96)], [], h2) Q) : ∀ (r i : Nat) (h : ix_H) (g : Nat → Int32), i + r = 64 → FS cM h0 h → MW h s (va_up A 13 g) → (∀ x, x < i → g x = -1) → gs none d mD_X5_forgets (61, [(1, .int (nI i)), (0, .ref 96)], [], h) Q := by
  intro r
  induction r with
  | zero =>
    intro i h g hi hF w hg
    obtain rfl : i = 64 := by omega
    refine gs_n 62 a_X5_forgets_61 rfl ?_
    refine gs_k (nI 64) 64 a_X5_forgets_62 (by decide +kernel) rfl ?_
    refine gs_ic 80 67 a_X5_forgets_64 rfl rfl (fun c => ?_) (fun c => ?_)
    · refine gs_w [(0, .ref 96)] (by simp [ix_nd]) (by intro x hx; simp only [List.mem_cons, List.not_mem_nil, or_false] at hx; rcases hx with rfl <;> rfl) ?_
      exact kk h g hF w hg
    · exact absurd (nI_le (Nat.le_refl 64) (by omega)) c
  | succ r ih =>
    intro i h g hi hF w hg
    have wd := w.s13 (upd g i (-1))
    rw [va_idem] at wd
    obtain ⟨w0, w1, w2, w3, w4, w5, w6, w7, w8, w9, w10, w11, w12, w13, w14, -⟩ := w
    simp only [mcell] at w0
    rw [va_up_self] at w14
    refine gs_n 62 a_X5_forgets_61 rfl ?_
    refine gs_k (nI 64) 64 a_X5_forgets_62 (by decide +kernel) rfl ?_
    refine gs_ic 80 67 a_X5_forgets_64 rfl rfl (fun c => ?_) (fun c => ?_)
    · exact absurd c (nI_ge (by omega) (by omega))
    · refine gs_n 68 a_X5_forgets_67 rfl ?_
      refine gs_get 71 a_X5_forgets_68 f_5_52 (by first | assumption | exact hs_same _ _ _ | exact (hs_ne _ _ (by first | assumption | decide | omega)).trans (by first | assumption | exact hs_same _ _ _ | exact (hs_ne _ _ (by first | assumption | decide | omega)).trans (by first | assumption | exact hs_same _ _ _ | exact (hs_ne _ _ (by first | assumption | decide | omega)).trans (by first | assumption | exact hs_same _ _ _ | exact (hs_ne _ _ (by first | assumption | decide | omega)).trans (by first | assumption | exact hs_same _ _ _))))) rfl rfl ?_
      refine gs_n 72 a_X5_forgets_71 rfl ?_
      refine gs_k (-1) 73 a_X5_forgets_72 (by decide +kernel) rfl ?_
      refine gs_is i 74 a_X5_forgets_73 (by first | assumption | exact hs_same _ _ _ | exact (hs_ne _ _ (by first | assumption | decide | omega)).trans (by first | assumption | exact hs_same _ _ _ | exact (hs_ne _ _ (by first | assumption | decide | omega)).trans (by first | assumption | exact hs_same _ _ _ | exact (hs_ne _ _ (by first | assumption | decide | omega)).trans (by first | assumption | exact hs_same _ _ _ | exact (hs_ne _ _ (by first | assumption | decide | omega)).trans (by first | assumption | exact hs_same _ _ _))))) rfl (by omega) (by omega) rfl ?_
      first | refine gs_inc _ 77 a_X5_forgets_74 rfl (Nat.le_of_ble_eq_true rfl) rfl ?_ | refine gs_n 77 a_X5_forgets_74 rfl ?_
      refine gs_n 61 a_X5_forgets_77 rfl ?_
      refine gs_w [(1, .int (nI (i + 1))), (0, .ref 96)] (by simp [ix_nd]) (by intro x hx; simp only [List.mem_cons, List.not_mem_nil, or_false] at hx; rcases hx with rfl | rfl <;> rfl) ?_
      refine ih (i + 1) _ _ (by omega) (hF.trans (FS.m _ (by omega))) wd ?_
      intro x hx
      by_cases z : x = i
      · subst z; rw [upd_s]
      · rw [upd_n (by omega)]; exact hg x (by omega)
def fgA (ar : Nat → Nat → Int32) (g8 g9 g10 g11 g12 : Nat → Int32) : Nat → Nat → Int32 := va_up (va_up (va_up (va_up (va_up ar 8 g8) 9 g9) 10 g10) 11 g11) 12 g12
theorem l_forg1 {h0 : ix_H} {Q : ix_O → Prop} (kk : ∀ h2 g8 g9 g10 g11 g12, FS cM h0 h2 → MW h2 s (fgA ar g8 g9 g10 g11 g12) → (∀ x, x < 32 → g8 x = nI 0 ∧ g10 x = -1 ∧ g12 x = nI 0) → gs none d mD_X5_forgets (59, [(0, .ref 96)], [], h2) Q) : ∀ (r i : Nat) (h : ix_H) (g8 g9 g10 g11 g12 : Nat → Int32), i + r = 32 → FS cM h0 h → MW h s (fgA ar g8 g9 g10 g11 g12) → (∀ x, x < i → g8 x = nI 0 ∧ g10 x = -1 ∧ g12 x = nI 0) → gs none d mD_X5_forgets (12, [(1, .int (nI i)), (0, .ref 96)], [], h) Q := by
  intro r
  induction r with
  | zero =>
    intro i h g8 g9 g10 g11 g12 hi hF w hg
    obtain rfl : i = 32 := by omega
    refine gs_n 13 a_X5_forgets_12 rfl ?_
    refine gs_k (nI 32) 15 a_X5_forgets_13 (by decide +kernel) rfl ?_
    refine gs_ic 59 18 a_X5_forgets_15 rfl rfl (fun c => ?_) (fun c => ?_)
    · refine gs_w [(0, .ref 96)] (by simp [ix_nd]) (by intro x hx; simp only [List.mem_cons, List.not_mem_nil, or_false] at hx; rcases hx with rfl <;> rfl) ?_
      exact kk h g8 g9 g10 g11 g12 hF w hg
    · exact absurd (nI_le (Nat.le_refl 32) (by omega)) c
  | succ r ih =>
    intro i h g8 g9 g10 g11 g12 hi hF w hg
    have wd := ((((w.s8 (upd g8 i (nI 0 &&& 1))).s9 (upd g9 i (nI 0))).s10 (upd g10 i (-1))).s11 (upd g11 i (nI 0))).s12 (upd g12 i (nI 0))
    have e1 : va_up (va_up (va_up (va_up (va_up (fgA ar g8 g9 g10 g11 g12) 8 (upd g8 i (nI 0 &&& 1))) 9 (upd g9 i (nI 0))) 10 (upd g10 i (-1))) 11 (upd g11 i (nI 0))) 12 (upd g12 i (nI 0)) = fgA ar (upd g8 i (nI 0 &&& 1)) (upd g9 i (nI 0)) (upd g10 i (-1)) (upd g11 i (nI 0)) (upd g12 i (nI 0)) := by
      funext q
      unfold fgA va_up
      repeat' split
      all_goals first | rfl | omega
    rw [e1] at wd
    obtain ⟨w0, w1, w2, w3, w4, w5, w6, w7, w8, w9, w10, w11, w12, w13, -⟩ := w
    simp only [mcell] at w0
    rw [show fgA ar g8 g9 g10 g11 g12 8 = g8 from rfl] at w9
    rw [show fgA ar g8 g9 g10 g11 g12 9 = g9 from rfl] at w10
    rw [show fgA ar g8 g9 g10 g11 g12 10 = g10 from rfl] at w11
    rw [show fgA ar g8 g9 g10 g11 g12 11 = g11 from rfl] at w12
    rw [show fgA ar g8 g9 g10 g11 g12 12 = g12 from rfl] at w13
    refine gs_n 13 a_X5_forgets_12 rfl ?_
    refine gs_k (nI 32) 15 a_X5_forgets_13 (by decide +kernel) rfl ?_
    refine gs_ic 59 18 a_X5_forgets_15 rfl rfl (fun c => ?_) (fun c => ?_)
    · exact absurd c (nI_ge (by omega) (by omega))
    · refine gs_n 19 a_X5_forgets_18 rfl ?_
      refine gs_get 22 a_X5_forgets_19 f_5_36 (by first | assumption | exact hs_same _ _ _ | exact (hs_ne _ _ (by first | assumption | decide | omega)).trans (by first | assumption | exact hs_same _ _ _ | exact (hs_ne _ _ (by first | assumption | decide | omega)).trans (by first | assumption | exact hs_same _ _ _ | exact (hs_ne _ _ (by first | assumption | decide | omega)).trans (by first | assumption | exact hs_same _ _ _ | exact (hs_ne _ _ (by first | assumption | decide | omega)).trans (by first | assumption | exact hs_same _ _ _ | exact (hs_ne _ _ (by first | assumption | decide | omega)).trans (by first | assumption | exact hs_same _ _ _ | exact (hs_ne _ _ (by first | assumption | decide | omega)).trans (by first | assumption | exact hs_same _ _ _))))))) rfl rfl ?_
      refine gs_n 23 a_X5_forgets_22 rfl ?_
      refine gs_k (nI 0) 24 a_X5_forgets_23 (by decide +kernel) rfl ?_
      refine gs_zs i 25 a_X5_forgets_24 (by first | assumption | exact hs_same _ _ _ | exact (hs_ne _ _ (by first | assumption | decide | omega)).trans (by first | assumption | exact hs_same _ _ _ | exact (hs_ne _ _ (by first | assumption | decide | omega)).trans (by first | assumption | exact hs_same _ _ _ | exact (hs_ne _ _ (by first | assumption | decide | omega)).trans (by first | assumption | exact hs_same _ _ _ | exact (hs_ne _ _ (by first | assumption | decide | omega)).trans (by first | assumption | exact hs_same _ _ _ | exact (hs_ne _ _ (by first | assumption | decide | omega)).trans (by first | assumption | exact hs_same _ _ _ | exact (hs_ne _ _ (by first | assumption | decide | omega)).trans (by first | assumption | exact hs_same _ _ _))))))) rfl (by omega) (by omega) rfl ?_
      refine gs_n 26 a_X5_forgets_25 rfl ?_
      refine gs_get 29 a_X5_forgets_26 f_5_40 (by first | assumption | exact hs_same _ _ _ | exact (hs_ne _ _ (by first | assumption | decide | omega)).trans (by first | assumption | exact hs_same _ _ _ | exact (hs_ne _ _ (by first | assumption | decide | omega)).trans (by first | assumption | exact hs_same _ _ _ | exact (hs_ne _ _ (by first | assumption | decide | omega)).trans (by first | assumption | exact hs_same _ _ _ | exact (hs_ne _ _ (by first | assumption | decide | omega)).trans (by first | assumption | exact hs_same _ _ _ | exact (hs_ne _ _ (by first | assumption | decide | omega)).trans (by first | assumption | exact hs_same _ _ _ | exact (hs_ne _ _ (by first | assumption | decide | omega)).trans (by first | assumption | exact hs_same _ _ _))))))) rfl rfl ?_
      refine gs_n 30 a_X5_forgets_29 rfl ?_
      refine gs_k (nI 0) 31 a_X5_forgets_30 (by decide +kernel) rfl ?_
      refine gs_is i 32 a_X5_forgets_31 (by first | assumption | exact hs_same _ _ _ | exact (hs_ne _ _ (by first | assumption | decide | omega)).trans (by first | assumption | exact hs_same _ _ _ | exact (hs_ne _ _ (by first | assumption | decide | omega)).trans (by first | assumption | exact hs_same _ _ _ | exact (hs_ne _ _ (by first | assumption | decide | omega)).trans (by first | assumption | exact hs_same _ _ _ | exact (hs_ne _ _ (by first | assumption | decide | omega)).trans (by first | assumption | exact hs_same _ _ _ | exact (hs_ne _ _ (by first | assumption | decide | omega)).trans (by first | assumption | exact hs_same _ _ _ | exact (hs_ne _ _ (by first | assumption | decide | omega)).trans (by first | assumption | exact hs_same _ _ _))))))) rfl (by omega) (by omega) rfl ?_
      refine gs_n 33 a_X5_forgets_32 rfl ?_
      refine gs_get 36 a_X5_forgets_33 f_5_43 (by first | assumption | exact hs_same _ _ _ | exact (hs_ne _ _ (by first | assumption | decide | omega)).trans (by first | assumption | exact hs_same _ _ _ | exact (hs_ne _ _ (by first | assumption | decide | omega)).trans (by first | assumption | exact hs_same _ _ _ | exact (hs_ne _ _ (by first | assumption | decide | omega)).trans (by first | assumption | exact hs_same _ _ _ | exact (hs_ne _ _ (by first | assumption | decide | omega)).trans (by first | assumption | exact hs_same _ _ _ | exact (hs_ne _ _ (by first | assumption | decide | omega)).trans (by first | assumption | exact hs_same _ _ _ | exact (hs_ne _ _ (by first | assumption | decide | omega)).trans (by first | assumption | exact hs_same _ _ _))))))) rfl rfl ?_
      refine gs_n 37 a_X5_forgets_36 rfl ?_
      refine gs_k (-1) 38 a_X5_forgets_37 (by decide +kernel) rfl ?_
      refine gs_is i 39 a_X5_forgets_38 (by first | assumption | exact hs_same _ _ _ | exact (hs_ne _ _ (by first | assumption | decide | omega)).trans (by first | assumption | exact hs_same _ _ _ | exact (hs_ne _ _ (by first | assumption | decide | omega)).trans (by first | assumption | exact hs_same _ _ _ | exact (hs_ne _ _ (by first | assumption | decide | omega)).trans (by first | assumption | exact hs_same _ _ _ | exact (hs_ne _ _ (by first | assumption | decide | omega)).trans (by first | assumption | exact hs_same _ _ _ | exact (hs_ne _ _ (by first | assumption | decide | omega)).trans (by first | assumption | exact hs_same _ _ _ | exact (hs_ne _ _ (by first | assumption | decide | omega)).trans (by first | assumption | exact hs_same _ _ _))))))) rfl (by omega) (by omega) rfl ?_
      refine gs_n 40 a_X5_forgets_39 rfl ?_
      refine gs_get 43 a_X5_forgets_40 f_5_46 (by first | assumption | exact hs_same _ _ _ | exact (hs_ne _ _ (by first | assumption | decide | omega)).trans (by first | assumption | exact hs_same _ _ _ | exact (hs_ne _ _ (by first | assumption | decide | omega)).trans (by first | assumption | exact hs_same _ _ _ | exact (hs_ne _ _ (by first | assumption | decide | omega)).trans (by first | assumption | exact hs_same _ _ _ | exact (hs_ne _ _ (by first | assumption | decide | omega)).trans (by first | assumption | exact hs_same _ _ _ | exact (hs_ne _ _ (by first | assumption | decide | omega)).trans (by first | assumption | exact hs_same _ _ _ | exact (hs_ne _ _ (by first | assumption | decide | omega)).trans (by first | assumption | exact hs_same _ _ _))))))) rfl rfl ?_
      refine gs_n 44 a_X5_forgets_43 rfl ?_
      refine gs_k (nI 0) 45 a_X5_forgets_44 (by decide +kernel) rfl ?_
      refine gs_is i 46 a_X5_forgets_45 (by first | assumption | exact hs_same _ _ _ | exact (hs_ne _ _ (by first | assumption | decide | omega)).trans (by first | assumption | exact hs_same _ _ _ | exact (hs_ne _ _ (by first | assumption | decide | omega)).trans (by first | assumption | exact hs_same _ _ _ | exact (hs_ne _ _ (by first | assumption | decide | omega)).trans (by first | assumption | exact hs_same _ _ _ | exact (hs_ne _ _ (by first | assumption | decide | omega)).trans (by first | assumption | exact hs_same _ _ _ | exact (hs_ne _ _ (by first | assumption | decide | omega)).trans (by first | assumption | exact hs_same _ _ _ | exact (hs_ne _ _ (by first | assumption | decide | omega)).trans (by first | assumption | exact hs_same _ _ _))))))) rfl (by omega) (by omega) rfl ?_
      refine gs_n 47 a_X5_forgets_46 rfl ?_
      refine gs_get 50 a_X5_forgets_47 f_5_49 (by first | assumption | exact hs_same _ _ _ | exact (hs_ne _ _ (by first | assumption | decide | omega)).trans (by first | assumption | exact hs_same _ _ _ | exact (hs_ne _ _ (by first | assumption | decide | omega)).trans (by first | assumption | exact hs_same _ _ _ | exact (hs_ne _ _ (by first | assumption | decide | omega)).trans (by first | assumption | exact hs_same _ _ _ | exact (hs_ne _ _ (by first | assumption | decide | omega)).trans (by first | assumption | exact hs_same _ _ _ | exact (hs_ne _ _ (by first | assumption | decide | omega)).trans (by first | assumption | exact hs_same _ _ _ | exact (hs_ne _ _ (by first | assumption | decide | omega)).trans (by first | assumption | exact hs_same _ _ _))))))) rfl rfl ?_
      refine gs_n 51 a_X5_forgets_50 rfl ?_
      refine gs_k (nI 0) 52 a_X5_forgets_51 (by decide +kernel) rfl ?_
      refine gs_is i 53 a_X5_forgets_52 (by first | assumption | exact hs_same _ _ _ | exact (hs_ne _ _ (by first | assumption | decide | omega)).trans (by first | assumption | exact hs_same _ _ _ | exact (hs_ne _ _ (by first | assumption | decide | omega)).trans (by first | assumption | exact hs_same _ _ _ | exact (hs_ne _ _ (by first | assumption | decide | omega)).trans (by first | assumption | exact hs_same _ _ _ | exact (hs_ne _ _ (by first | assumption | decide | omega)).trans (by first | assumption | exact hs_same _ _ _ | exact (hs_ne _ _ (by first | assumption | decide | omega)).trans (by first | assumption | exact hs_same _ _ _ | exact (hs_ne _ _ (by first | assumption | decide | omega)).trans (by first | assumption | exact hs_same _ _ _))))))) rfl (by omega) (by omega) rfl ?_
      first | refine gs_inc _ 56 a_X5_forgets_53 rfl (Nat.le_of_ble_eq_true rfl) rfl ?_ | refine gs_n 56 a_X5_forgets_53 rfl ?_
      refine gs_n 12 a_X5_forgets_56 rfl ?_
      refine gs_w [(1, .int (nI (i + 1))), (0, .ref 96)] (by simp [ix_nd]) (by intro x hx; simp only [List.mem_cons, List.not_mem_nil, or_false] at hx; rcases hx with rfl | rfl <;> rfl) ?_
      refine ih (i + 1) _ _ _ _ _ _ (by omega) (hF.trans (((((FS.m _ (by omega)).trans (FS.m _ (by omega))).trans (FS.m _ (by omega))).trans (FS.m _ (by omega))).trans (FS.m _ (by omega)))) wd ?_
      intro x hx
      by_cases z : x = i
      · subst z
        rw [upd_s, upd_s, upd_s]
        exact ⟨by decide +kernel, rfl, rfl⟩
      · rw [upd_n (by omega), upd_n (by omega), upd_n (by omega)]
        exact hg x (by omega)
theorem m_forgets (w : MW h (a0, a1, a2, a3, a4, a5, a6, a7, a8, a9, a10, a11, a12) ar) : ev (d + 1) n_X5_forgets [.ref 96] h (fun u => u.1 = none ∧ FS cM h u.2 ∧ ∃ A, MW u.2 (a0, a1, a2, a3, a4, a5, a6, a7, a8, 0, 0, a11, a12) A ∧ TR A T0 ∧ ∀ q, q < 8 ∨ 14 ≤ q → A q = ar q) := by
  have wd := (w.obj (a0, a1, a2, a3, a4, a5, a6, a7, a8, 0, a10, a11, a12)).obj (a0, a1, a2, a3, a4, a5, a6, a7, a8, 0, 0, a11, a12)
  have w0 := w.1
  simp only [mcell] at w0
  have e0 : ar = fgA ar (ar 8) (ar 9) (ar 10) (ar 11) (ar 12) := by
    funext q
    unfold fgA va_up
    repeat' split
    all_goals first | rfl | (subst_vars; rfl)
  refine ev_of q_X5_forgets (Nat.le_of_ble_eq_true rfl) ?_
  refine gs_n 1 a_X5_forgets_0 rfl ?_
  refine gs_k (nI 0) 2 a_X5_forgets_1 (by decide +kernel) rfl ?_
  refine gs_put 5 _ a_X5_forgets_2 f_5_80 (by first | assumption | exact hs_same _ _ _ | exact (hs_ne _ _ (by first | assumption | decide | omega)).trans (by first | assumption | exact hs_same _ _ _ | exact (hs_ne _ _ (by first | assumption | decide | omega)).trans (by first | assumption | exact hs_same _ _ _ | exact (hs_ne _ _ (by first | assumption | decide | omega)).trans (by first | assumption | exact hs_same _ _ _ | exact (hs_ne _ _ (by first | assumption | decide | omega)).trans (by first | assumption | exact hs_same _ _ _))))) (Nat.le_of_ble_eq_true rfl) rfl (fun z => absurd z (by decide)) rfl rfl ?_
  refine gs_n 6 a_X5_forgets_5 rfl ?_
  refine gs_k (nI 0) 7 a_X5_forgets_6 (by decide +kernel) rfl ?_
  refine gs_put 10 _ a_X5_forgets_7 f_5_84 (by first | assumption | exact hs_same _ _ _ | exact (hs_ne _ _ (by first | assumption | decide | omega)).trans (by first | assumption | exact hs_same _ _ _ | exact (hs_ne _ _ (by first | assumption | decide | omega)).trans (by first | assumption | exact hs_same _ _ _ | exact (hs_ne _ _ (by first | assumption | decide | omega)).trans (by first | assumption | exact hs_same _ _ _ | exact (hs_ne _ _ (by first | assumption | decide | omega)).trans (by first | assumption | exact hs_same _ _ _))))) (Nat.le_of_ble_eq_true rfl) rfl (fun z => absurd z (by decide)) rfl rfl ?_
  refine gs_k (nI 0) 11 a_X5_forgets_10 (by decide +kernel) rfl ?_
  refine gs_n 12 a_X5_forgets_11 rfl ?_
  refine gs_w [(1, .int (nI 0)), (0, .ref 96)] (by simp [ix_nd]) (by intro x hx; simp only [List.mem_cons, List.not_mem_nil, or_false] at hx; rcases hx with rfl | rfl <;> rfl) ?_
  refine l_forg1 (h0 := h) (s := (a0, a1, a2, a3, a4, a5, a6, a7, a8, 0, 0, a11, a12)) (ar := ar) ?_ 32 0 _ (ar 8) (ar 9) (ar 10) (ar 11) (ar 12) (by omega) ((FS.m _ (by omega)).trans (FS.m _ (by omega))) (by rw [← e0]; exact wd) (fun x hx => absurd hx (by omega))
  intro h2 g8 g9 g10 g11 g12 hF2 w2 hg
  have v0 := w2.1
  simp only [mcell] at v0
  refine gs_k (nI 0) 60 a_X5_forgets_59 (by decide +kernel) rfl ?_
  refine gs_n 61 a_X5_forgets_60 rfl ?_
  refine gs_w [(1, .int (nI 0)), (0, .ref 96)] (by simp [ix_nd]) (by intro x hx; simp only [List.mem_cons, List.not_mem_nil, or_false] at hx; rcases hx with rfl | rfl <;> rfl) ?_
  have e2 : va_up (fgA ar g8 g9 g10 g11 g12) 13 (fgA ar g8 g9 g10 g11 g12 13) = fgA ar g8 g9 g10 g11 g12 := by
    funext q
    by_cases z : q = 13
    · subst z; rw [va_up_self]
    · rw [va_up_ne _ _ z]
  refine l_forg2 (h0 := h) (s := (a0, a1, a2, a3, a4, a5, a6, a7, a8, 0, 0, a11, a12)) (fgA ar g8 g9 g10 g11 g12) ?_ 64 0 h2 (fgA ar g8 g9 g10 g11 g12 13) (by omega) hF2 (by rw [e2]; exact w2) (fun x hx => absurd hx (by omega))
  intro h3 g hF3 w3 hg3
  refine gs_vret a_X5_forgets_80 rfl ?_
  refine ⟨rfl, hF3, _, w3, ?_, ?_⟩
  · refine ⟨?_, ?_, fun t ht => absurd ht (Nat.not_lt_zero t), fun i hi => absurd hi (Nat.not_lt_zero i)⟩
    · intro k hk
      obtain ⟨q1, q2, q3⟩ := hg k hk
      refine ⟨?_, fun z => absurd rfl z, ?_, fun z => absurd rfl z, ?_⟩
      · show g8 k = _
        rw [q1]; rfl
      · show g10 k = _
        rw [q2, m1_0]
      · exact q3
    · intro i hi
      show g i = _
      rw [hg3 i hi, m1_0]
  · intro q hq
    rw [va_up_ne _ _ (by omega)]
    unfold fgA
    rw [va_up_ne _ _ (by omega), va_up_ne _ _ (by omega), va_up_ne _ _ (by omega), va_up_ne _ _ (by omega), va_up_ne _ _ (by omega)]
theorem crp_c {e : En} {l : List En} {m : Nat} : crp P (e :: l) m = if sz P e ≤ m then ((crp P l (m - sz P e)).1 + 1, (crp P l (m - sz P e)).2) else (0, m) := rfl
theorem l_rcrash {Q : ix_O → Prop} {al kp' : Int32} {c t : Nat} (hP : P ≤ 8) (hE : EA P ar X) (w : MW h (P, a1, a2, a3, a4, a5, X.length, a7, a8, a9, a10, a11, a12) ar) (kk : gs none (d + 1) mD_X5_crash (68, [(4, .int (nI (sy + c))), (3, .int (nI t)), (0, .ref 96), (1, .int kp'), (2, .int al)], [], h) Q) : ∀ (r i left : Nat), sy + i + r = X.length → left < 2 ^ 31 → (crp P (X.drop (sy + i)) left).1 + i = c → (crp P (X.drop (sy + i)) left).2 = t →
    gs none (d + 1) mD_X5_crash (34, [(4, .int (nI (sy + i))), (3, .int (nI left)), (0, .ref 96), (1, .int kp'), (2, .int al)], [], h) Q := by
  obtain ⟨hl, hok, ha⟩ := hE
  have w0 := w.1
  simp only [mcell] at w0
  intro r
  induction r with
  | zero =>
    intro i left hi hlb h1 h2
    rw [List.drop_of_length_le (by omega)] at h1 h2
    have h1 : 0 + i = c := h1
    have h2 : left = t := h2
    obtain rfl : i = c := by omega
    subst h2
    refine gs_n 36 a_X5_crash_34 rfl ?_
    refine gs_n 37 a_X5_crash_36 rfl ?_
    refine gs_get 40 a_X5_crash_37 f_5_106 (by first | assumption | exact hs_same _ _ _ | exact (hs_ne _ _ (by first | assumption | decide | omega)).trans (by first | assumption | exact hs_same _ _ _ | exact (hs_ne _ _ (by first | assumption | decide | omega)).trans (by first | assumption | exact hs_same _ _ _ | exact (hs_ne _ _ (by first | assumption | decide | omega)).trans (by first | assumption | exact hs_same _ _ _ | exact (hs_ne _ _ (by first | assumption | decide | omega)).trans (by first | assumption | exact hs_same _ _ _))))) rfl rfl ?_
    refine gs_ic 68 43 a_X5_crash_40 rfl rfl (fun cc => ?_) (fun cc => ?_)
    · refine gs_w [(4, .int (nI (sy + i))), (3, .int (nI left)), (0, .ref 96), (1, .int kp'), (2, .int al)] (by simp [ix_nd]) (by intro x hx; simp only [List.mem_cons, List.not_mem_nil, or_false] at hx; rcases hx with rfl | rfl | rfl | rfl | rfl <;> rfl) ?_
      exact kk
    · exact absurd (nI_le (by omega) (by omega)) cc
  | succ r ih =>
    intro i left hi hlb h1 h2
    have hjl : sy + i < X.length := by omega
    have hA := ha (sy + i) hjl
    have hokj := hok _ (getD_mem hjl)
    have hs54 := sz_le hokj
    rw [drop_cons hjl, crp_c] at h1 h2
    refine gs_n 36 a_X5_crash_34 rfl ?_
    refine gs_n 37 a_X5_crash_36 rfl ?_
    refine gs_get 40 a_X5_crash_37 f_5_106 (by first | assumption | exact hs_same _ _ _ | exact (hs_ne _ _ (by first | assumption | decide | omega)).trans (by first | assumption | exact hs_same _ _ _ | exact (hs_ne _ _ (by first | assumption | decide | omega)).trans (by first | assumption | exact hs_same _ _ _ | exact (hs_ne _ _ (by first | assumption | decide | omega)).trans (by first | assumption | exact hs_same _ _ _ | exact (hs_ne _ _ (by first | assumption | decide | omega)).trans (by first | assumption | exact hs_same _ _ _))))) rfl rfl ?_
    refine gs_ic 68 43 a_X5_crash_40 rfl rfl (fun cc => ?_) (fun cc => ?_)
    · exact absurd cc (nI_ge (by omega) (by omega))
    · refine gs_n 44 a_X5_crash_43 rfl ?_
      refine gs_n 46 a_X5_crash_44 rfl ?_
      refine gs_cv 49 a_X5_crash_46 k_5_121 q_X5_sizeOf (r_sizeOf (sy + i) (by omega) hA hokj hP w rfl) rfl rfl rfl (by simp [Value.category]) (by first | assumption | exact hs_same _ _ _ | exact (hs_ne _ _ (by first | assumption | decide | omega)).trans (by first | assumption | exact hs_same _ _ _ | exact (hs_ne _ _ (by first | assumption | decide | omega)).trans (by first | assumption | exact hs_same _ _ _ | exact (hs_ne _ _ (by first | assumption | decide | omega)).trans (by first | assumption | exact hs_same _ _ _ | exact (hs_ne _ _ (by first | assumption | decide | omega)).trans (by first | assumption | exact hs_same _ _ _))))) rfl (fun v h1 hp => ?_)
      cases hp
      refine gs_n 50 a_X5_crash_49 rfl ?_
      refine gs_ic 68 53 a_X5_crash_50 rfl rfl (fun c50 => ?_) (fun c50 => ?_)
      · have c50 : nI left < nI (sz P (X.getD (sy + i) en0)) := c50
        rw [nI_ltI (by omega) (by omega)] at c50
        rw [if_neg (by omega)] at h1 h2
        have h1 : 0 + i = c := h1
        have h2 : left = t := h2
        obtain rfl : i = c := by omega
        subst h2
        refine gs_w [(4, .int (nI (sy + i))), (3, .int (nI left)), (0, .ref 96), (1, .int kp'), (2, .int al)] (by simp [ix_nd]) (by intro x hx; simp only [List.mem_cons, List.not_mem_nil, or_false] at hx; rcases hx with rfl | rfl | rfl | rfl | rfl <;> rfl) ?_
        exact kk
      · have c50 : ¬ nI left < nI (sz P (X.getD (sy + i) en0)) := c50
        rw [nI_ltI (by omega) (by omega)] at c50
        rw [if_pos (by omega)] at h1 h2
        simp only at h1 h2
        refine gs_n 54 a_X5_crash_53 rfl ?_
        refine gs_n 55 a_X5_crash_54 rfl ?_
        refine gs_n 57 a_X5_crash_55 rfl ?_
        refine gs_cv 60 a_X5_crash_57 k_5_121 q_X5_sizeOf (r_sizeOf (sy + i) (by omega) hA hokj hP w rfl) rfl rfl rfl (by simp [Value.category]) (by first | assumption | exact hs_same _ _ _ | exact (hs_ne _ _ (by first | assumption | decide | omega)).trans (by first | assumption | exact hs_same _ _ _ | exact (hs_ne _ _ (by first | assumption | decide | omega)).trans (by first | assumption | exact hs_same _ _ _ | exact (hs_ne _ _ (by first | assumption | decide | omega)).trans (by first | assumption | exact hs_same _ _ _ | exact (hs_ne _ _ (by first | assumption | decide | omega)).trans (by first | assumption | exact hs_same _ _ _))))) rfl (fun v h1 hp => ?_)
        cases hp
        refine gs_n 61 a_X5_crash_60 rfl ?_
        refine gs_n 62 a_X5_crash_61 rfl ?_
        first | refine gs_inc _ 65 a_X5_crash_62 rfl (Nat.le_of_ble_eq_true rfl) rfl ?_ | refine gs_n 65 a_X5_crash_62 rfl ?_
        refine gs_n 34 a_X5_crash_65 rfl ?_
        refine gs_w [(4, .int (nI (sy + i + 1))), (3, .int (nI left - nI (sz P (X.getD (sy + i) en0)))), (0, .ref 96), (1, .int kp'), (2, .int al)] (by simp [ix_nd]) (by intro x hx; simp only [List.mem_cons, List.not_mem_nil, or_false] at hx; rcases hx with rfl | rfl | rfl | rfl | rfl <;> rfl) ?_
        rw [pk_sub (by omega)]
        exact ih (i + 1) (left - sz P (X.getD (sy + i) en0)) (by omega) (by omega) (by show (crp P (X.drop (sy + i + 1)) (left - sz P (X.getD (sy + i) en0))).1 + (i + 1) = c; omega) h2
theorem r_crash (x : Int32) (hs : SI (P, cap, tmo, clk, cl, cut, X, sy, torn, tE, tp, an)) (w : RS h (P, cap, tmo, clk, cl, cut, X, sy, torn, tE, tp, an)) : ev (d + 3) n_X5_crash [.ref 96, .int x] h (fun u => u.1 = some (.int (F_crash (P, cap, tmo, clk, cl, cut, X, sy, torn, tE, tp, an) x).1) ∧ FS cM h u.2 ∧ RS u.2 (F_crash (P, cap, tmo, clk, cl, cut, X, sy, torn, tE, tp, an) x).2) := by
  have hsX := hs.okX
  obtain ⟨s1, s2, s3, s4, s5, s6, s7, s8, s9, hv, s11, s12, s13, s14, s15, s16, s17, s18⟩ := hs
  have w' : RE h P cap tmo clk cl cut X sy torn tE tp an (tS cl P X) := w
  obtain ⟨ar, wm, hE, hto, hTR, h18, h19⟩ := w'.un
  have w0 := wm.1
  simp only [mcell] at w0
  have hsum := sum_b (g := sz P) hE.1 (fun e he => sz_le (hE.2.1 e he)) sy (X.drop sy).length
  rw [List.take_length] at hsum
  simp only [F_crash]
  refine ev_of q_X5_crash (Nat.le_of_ble_eq_true rfl) ?_
  refine gs_n 1 a_X5_crash_0 rfl ?_
  refine gs_get 4 a_X5_crash_1 f_5_99 (by first | assumption | exact hs_same _ _ _ | exact (hs_ne _ _ (by first | assumption | decide | omega)).trans (by first | assumption | exact hs_same _ _ _ | exact (hs_ne _ _ (by first | assumption | decide | omega)).trans (by first | assumption | exact hs_same _ _ _ | exact (hs_ne _ _ (by first | assumption | decide | omega)).trans (by first | assumption | exact hs_same _ _ _ | exact (hs_ne _ _ (by first | assumption | decide | omega)).trans (by first | assumption | exact hs_same _ _ _))))) rfl rfl ?_
  refine gs_if 9 7 a_X5_crash_4 rfl rfl (fun c4 => ?_) (fun c4 => ?_)
  · have c4 := (b01_0 _).mp c4
    subst c4
    rw [if_neg (by simp)]
    refine gs_n 10 a_X5_crash_9 rfl ?_
    refine gs_cv 13 a_X5_crash_10 k_5_199 q_X5_unsynced (r_unsynced s9 s2 w') rfl rfl rfl (by simp [Value.category]) (by first | assumption | exact hs_same _ _ _ | exact (hs_ne _ _ (by first | assumption | decide | omega)).trans (by first | assumption | exact hs_same _ _ _ | exact (hs_ne _ _ (by first | assumption | decide | omega)).trans (by first | assumption | exact hs_same _ _ _ | exact (hs_ne _ _ (by first | assumption | decide | omega)).trans (by first | assumption | exact hs_same _ _ _ | exact (hs_ne _ _ (by first | assumption | decide | omega)).trans (by first | assumption | exact hs_same _ _ _))))) rfl (fun v h1 hp => ?_)
    cases hp
    refine gs_n 14 a_X5_crash_13 rfl ?_
    refine gs_n 15 a_X5_crash_14 rfl ?_
    refine gs_if 23 18 a_X5_crash_15 rfl rfl (fun c15 => ?_) (fun c15 => ?_)
    · have c15 : x < 0 := c15
      rw [lt0_iff] at c15
      rw [if_pos (Or.inl c15)]
      refine gs_k (-2) 25 a_X5_crash_23 (by decide +kernel) rfl ?_
      refine gs_iret a_X5_crash_25 rfl rfl ?_
      exact ⟨rfl, FS.rf _ _, w⟩
    · have c15 : ¬ x < 0 := c15
      rw [lt0_iff] at c15
      have hx : x = nI (kn x) := nI_ofInt (by omega)
      have hxb : kn x < 2 ^ 31 := by have := Int32.toInt_lt x; unfold kn; omega
      generalize hkk : kn x = m at *
      subst hx
      refine gs_n 19 a_X5_crash_18 rfl ?_
      refine gs_n 20 a_X5_crash_19 rfl ?_
      refine gs_ic 26 23 a_X5_crash_20 rfl rfl (fun c20 => ?_) (fun c20 => ?_)
      · have c20 : nI m ≤ nI (sumOn (sz P) (X.drop sy)) := c20
        rw [nI_leI (by omega) (by omega)] at c20
        rw [if_neg (by omega)]
        obtain ⟨p1, p2, p3, p4⟩ := crp_ok (P := P) (X.drop sy) m c20
        rw [List.length_drop] at p1 p2 p3
        have hcl : sy + (crp P (X.drop sy) m).1 ≤ X.length := by omega
        have ht2 : (crp P (X.drop sy) m).2 ≤ m := by omega
        refine gs_n 27 a_X5_crash_26 rfl ?_
        refine gs_n 28 a_X5_crash_27 rfl ?_
        refine gs_n 29 a_X5_crash_28 rfl ?_
        refine gs_get 32 a_X5_crash_29 f_5_109 (by first | assumption | exact hs_same _ _ _ | exact (hs_ne _ _ (by first | assumption | decide | omega)).trans (by first | assumption | exact hs_same _ _ _ | exact (hs_ne _ _ (by first | assumption | decide | omega)).trans (by first | assumption | exact hs_same _ _ _ | exact (hs_ne _ _ (by first | assumption | decide | omega)).trans (by first | assumption | exact hs_same _ _ _ | exact (hs_ne _ _ (by first | assumption | decide | omega)).trans (by first | assumption | exact hs_same _ _ _))))) rfl rfl ?_
        refine gs_n 34 a_X5_crash_32 rfl ?_
        refine gs_w [(4, .int (nI (sy + 0))), (3, .int (nI m)), (0, .ref 96), (1, .int (nI m)), (2, .int (nI (sumOn (sz P) (X.drop sy))))] (by simp [ix_nd]) (by intro x hx; simp only [List.mem_cons, List.not_mem_nil, or_false] at hx; rcases hx with rfl | rfl | rfl | rfl | rfl <;> rfl) ?_
        refine l_rcrash (sy := sy) (c := (crp P (X.drop sy) m).1) (t := (crp P (X.drop sy) m).2) s2 hE wm ?_ (X.length - sy) 0 m (by omega) hxb rfl rfl
        generalize hc1 : (crp P (X.drop sy) m).1 = c at *
        generalize hc2 : (crp P (X.drop sy) m).2 = t at *
        have wd := (((wm.obj (P, cap, tmo, clk, false, cut, sy + c, sy, torn, (tS false P X).2.2.2.2.2.2.2.2.2.1, (tS false P X).2.2.2.2.2.2.2.2.2.2.1.length, tp.length, an.length)).obj (P, cap, tmo, clk, false, cut, sy + c, sy + c, torn, (tS false P X).2.2.2.2.2.2.2.2.2.1, (tS false P X).2.2.2.2.2.2.2.2.2.2.1.length, tp.length, an.length)).obj (P, cap, tmo, clk, false, cut, sy + c, sy + c, t, (tS false P X).2.2.2.2.2.2.2.2.2.1, (tS false P X).2.2.2.2.2.2.2.2.2.2.1.length, tp.length, an.length)).obj (P, cap, tmo, clk, true, cut, sy + c, sy + c, t, (tS false P X).2.2.2.2.2.2.2.2.2.1, (tS false P X).2.2.2.2.2.2.2.2.2.2.1.length, tp.length, an.length)
        refine gs_n 69 a_X5_crash_68 rfl ?_
        refine gs_n 71 a_X5_crash_69 rfl ?_
        refine gs_put 74 _ a_X5_crash_71 f_5_106 (by first | assumption | exact hs_same _ _ _ | exact (hs_ne _ _ (by first | assumption | decide | omega)).trans (by first | assumption | exact hs_same _ _ _ | exact (hs_ne _ _ (by first | assumption | decide | omega)).trans (by first | assumption | exact hs_same _ _ _ | exact (hs_ne _ _ (by first | assumption | decide | omega)).trans (by first | assumption | exact hs_same _ _ _ | exact (hs_ne _ _ (by first | assumption | decide | omega)).trans (by first | assumption | exact hs_same _ _ _))))) (Nat.le_of_ble_eq_true rfl) rfl (fun z => absurd z (by decide)) rfl rfl ?_
        refine gs_n 75 a_X5_crash_74 rfl ?_
        refine gs_n 77 a_X5_crash_75 rfl ?_
        refine gs_put 80 _ a_X5_crash_77 f_5_109 (by first | assumption | exact hs_same _ _ _ | exact (hs_ne _ _ (by first | assumption | decide | omega)).trans (by first | assumption | exact hs_same _ _ _ | exact (hs_ne _ _ (by first | assumption | decide | omega)).trans (by first | assumption | exact hs_same _ _ _ | exact (hs_ne _ _ (by first | assumption | decide | omega)).trans (by first | assumption | exact hs_same _ _ _ | exact (hs_ne _ _ (by first | assumption | decide | omega)).trans (by first | assumption | exact hs_same _ _ _))))) (Nat.le_of_ble_eq_true rfl) rfl (fun z => absurd z (by decide)) rfl rfl ?_
        refine gs_n 81 a_X5_crash_80 rfl ?_
        refine gs_n 82 a_X5_crash_81 rfl ?_
        refine gs_put 85 _ a_X5_crash_82 f_5_112 (by first | assumption | exact hs_same _ _ _ | exact (hs_ne _ _ (by first | assumption | decide | omega)).trans (by first | assumption | exact hs_same _ _ _ | exact (hs_ne _ _ (by first | assumption | decide | omega)).trans (by first | assumption | exact hs_same _ _ _ | exact (hs_ne _ _ (by first | assumption | decide | omega)).trans (by first | assumption | exact hs_same _ _ _ | exact (hs_ne _ _ (by first | assumption | decide | omega)).trans (by first | assumption | exact hs_same _ _ _))))) (Nat.le_of_ble_eq_true rfl) rfl (fun z => absurd z (by decide)) rfl rfl ?_
        refine gs_n 86 a_X5_crash_85 rfl ?_
        refine gs_k (nI 1) 87 a_X5_crash_86 (by decide +kernel) rfl ?_
        refine gs_put 90 _ a_X5_crash_87 f_5_99 (by first | assumption | exact hs_same _ _ _ | exact (hs_ne _ _ (by first | assumption | decide | omega)).trans (by first | assumption | exact hs_same _ _ _ | exact (hs_ne _ _ (by first | assumption | decide | omega)).trans (by first | assumption | exact hs_same _ _ _ | exact (hs_ne _ _ (by first | assumption | decide | omega)).trans (by first | assumption | exact hs_same _ _ _ | exact (hs_ne _ _ (by first | assumption | decide | omega)).trans (by first | assumption | exact hs_same _ _ _))))) (Nat.le_of_ble_eq_true rfl) rfl (fun z => absurd z (by decide)) rfl rfl ?_
        refine gs_n 91 a_X5_crash_90 rfl ?_
        refine gs_cv 94 a_X5_crash_91 k_5_118 q_X5_forgets (m_forgets wd) rfl rfl rfl (by simp [Value.category]) (by first | assumption | exact hs_same _ _ _ | exact (hs_ne _ _ (by first | assumption | decide | omega)).trans (by first | assumption | exact hs_same _ _ _ | exact (hs_ne _ _ (by first | assumption | decide | omega)).trans (by first | assumption | exact hs_same _ _ _ | exact (hs_ne _ _ (by first | assumption | decide | omega)).trans (by first | assumption | exact hs_same _ _ _ | exact (hs_ne _ _ (by first | assumption | decide | omega)).trans (by first | assumption | exact hs_same _ _ _))))) rfl (fun v h3 hp => ?_)
        obtain ⟨e1, hF3, A, w3, hTA, hA⟩ := hp
        simp only at e1
        subst e1
        refine gs_n 95 a_X5_crash_94 rfl ?_
        refine gs_n 96 a_X5_crash_95 rfl ?_
        refine gs_n 97 a_X5_crash_96 rfl ?_
        rw [pk_sub c20]
        refine gs_iret a_X5_crash_97 rfl rfl ?_
        refine ⟨rfl, ((((FS.m _ (by omega)).trans (FS.m _ (by omega))).trans (FS.m _ (by omega))).trans (FS.m _ (by omega))).trans hF3, ?_⟩
        have hlt : (X.take (sy + c)).length = sy + c := by rw [List.length_take]; omega
        refine RE.mk' (T := T0) (ar := A) ?_ ?_ ?_ hTA ?_ ?_
        · rw [hlt]; exact w3
        · refine EA_same (ar := ar) (fun q hq => hA q (Or.inl hq)) ?_
          refine ⟨by rw [hlt]; omega, fun e he => hE.2.1 e (List.mem_of_mem_take he), fun i hi => ?_⟩
          rw [hlt] at hi
          rw [getD_take hi]
          exact hE.2.2 i (by omega)
        · intro ht0
          rw [hlt]
          refine AtA_same (ar := ar) (fun q hq => hA q (Or.inl hq)) ?_
          exact hE.2.2 (sy + c) (by omega)
        · intro i hi
          rw [hA 18 (by omega)]
          exact h18 i hi
        · intro i hi
          rw [hA 19 (by omega)]
          exact h19 i hi
      · have c20 : ¬ nI m ≤ nI (sumOn (sz P) (X.drop sy)) := c20
        rw [nI_leI (by omega) (by omega)] at c20
        rw [if_pos (by omega)]
        refine gs_k (-2) 25 a_X5_crash_23 (by decide +kernel) rfl ?_
        refine gs_iret a_X5_crash_25 rfl rfl ?_
        exact ⟨rfl, FS.rf _ _, w⟩
  · have c4 := (b01_ne _).mp c4
    subst c4
    rw [if_pos rfl]
    refine gs_k (-1) 8 a_X5_crash_7 (by decide +kernel) rfl ?_
    refine gs_iret a_X5_crash_8 rfl rfl ?_
    exact ⟨rfl, FS.rf _ _, w⟩
theorem r_format (p c t : Int32) (hP : P ≤ 8) (w : RE h P cap tmo clk cl cut X sy torn tE tp an T) : ev (d + 2) n_X5_format [.ref 96, .int p, .int c, .int t] h (fun u => if 1 ≤ p.toInt ∧ p.toInt ≤ 8 ∧ 100 ≤ c.toInt ∧ c.toInt ≤ 4000 ∧ 1 ≤ t.toInt ∧ t.toInt ≤ 1000 then u.1 = some (.int (nI 1)) ∧ FS cM h u.2 ∧ RE u.2 (kn p) (kn c) (kn t) 0 false 0 [] 0 0 tE tp [] T0 else u = (some (.int (nI 0)), h)) := by
  obtain ⟨ar, wm, hE, hto, hTR, h18, h19⟩ := w.un
  have w0 := wm.1
  simp only [mcell] at w0
  have bad : ¬ (1 ≤ p.toInt ∧ p.toInt ≤ 8 ∧ 100 ≤ c.toInt ∧ c.toInt ≤ 4000 ∧ 1 ≤ t.toInt ∧ t.toInt ≤ 1000) → gs none (d + 1) mD_X5_format (36, [(0, .ref 96), (1, .int p), (2, .int c), (3, .int t)], [], h) (fun u => if 1 ≤ p.toInt ∧ p.toInt ≤ 8 ∧ 100 ≤ c.toInt ∧ c.toInt ≤ 4000 ∧ 1 ≤ t.toInt ∧ t.toInt ≤ 1000 then u.1 = some (.int (nI 1)) ∧ FS cM h u.2 ∧ RE u.2 (kn p) (kn c) (kn t) 0 false 0 [] 0 0 tE tp [] T0 else u = (some (.int (nI 0)), h)) := by
    intro hb
    simp only [if_neg hb]
    refine gs_k (nI 0) 37 a_X5_format_36 (by decide +kernel) rfl ?_
    refine gs_iret a_X5_format_37 rfl rfl ?_
    rfl
  refine ev_of q_X5_format (Nat.le_of_ble_eq_true rfl) ?_
  refine gs_n 1 a_X5_format_0 rfl ?_
  refine gs_k (nI 1) 2 a_X5_format_1 (by decide +kernel) rfl ?_
  refine gs_ic 36 5 a_X5_format_2 rfl rfl (fun c2 => ?_) (fun c2 => ?_)
  · have c2 : p < nI 1 := c2
    rw [lt_lit' (by omega)] at c2
    exact bad (by omega)
  · have c2 : ¬ p < nI 1 := c2
    rw [lt_lit' (by omega)] at c2
    refine gs_n 6 a_X5_format_5 rfl ?_
    refine gs_k (nI 8) 8 a_X5_format_6 (by decide +kernel) rfl ?_
    refine gs_ic 36 11 a_X5_format_8 rfl rfl (fun c8 => ?_) (fun c8 => ?_)
    · have c8 : nI 8 < p := c8
      rw [lt_lit (by omega)] at c8
      exact bad (by omega)
    · have c8 : ¬ nI 8 < p := c8
      rw [lt_lit (by omega)] at c8
      refine gs_n 12 a_X5_format_11 rfl ?_
      refine gs_k (nI 100) 14 a_X5_format_12 (by decide +kernel) rfl ?_
      refine gs_ic 36 17 a_X5_format_14 rfl rfl (fun c14 => ?_) (fun c14 => ?_)
      · have c14 : c < nI 100 := c14
        rw [lt_lit' (by omega)] at c14
        exact bad (by omega)
      · have c14 : ¬ c < nI 100 := c14
        rw [lt_lit' (by omega)] at c14
        refine gs_n 18 a_X5_format_17 rfl ?_
        refine gs_k (nI 4000) 21 a_X5_format_18 (by decide +kernel) rfl ?_
        refine gs_ic 36 24 a_X5_format_21 rfl rfl (fun c21 => ?_) (fun c21 => ?_)
        · have c21 : nI 4000 < c := c21
          rw [lt_lit (by omega)] at c21
          exact bad (by omega)
        · have c21 : ¬ nI 4000 < c := c21
          rw [lt_lit (by omega)] at c21
          refine gs_n 25 a_X5_format_24 rfl ?_
          refine gs_k (nI 1) 26 a_X5_format_25 (by decide +kernel) rfl ?_
          refine gs_ic 36 29 a_X5_format_26 rfl rfl (fun c26 => ?_) (fun c26 => ?_)
          · have c26 : t < nI 1 := c26
            rw [lt_lit' (by omega)] at c26
            exact bad (by omega)
          · have c26 : ¬ t < nI 1 := c26
            rw [lt_lit' (by omega)] at c26
            refine gs_n 30 a_X5_format_29 rfl ?_
            refine gs_k (nI 1000) 33 a_X5_format_30 (by decide +kernel) rfl ?_
            refine gs_ic 38 36 a_X5_format_33 rfl rfl (fun c33 => ?_) (fun c33 => ?_)
            · have c33 : t ≤ nI 1000 := c33
              rw [le_lit (by omega)] at c33
              have hgood : 1 ≤ p.toInt ∧ p.toInt ≤ 8 ∧ 100 ≤ c.toInt ∧ c.toInt ≤ 4000 ∧ 1 ≤ t.toInt ∧ t.toInt ≤ 1000 := by omega
              simp only [if_pos hgood]
              have hp : p = nI (kn p) := nI_ofInt (by omega)
              have hc : c = nI (kn c) := nI_ofInt (by omega)
              have ht : t = nI (kn t) := nI_ofInt (by omega)
              clear bad hgood
              generalize hk1 : kn p = p' at *
              generalize hk2 : kn c = c' at *
              generalize hk3 : kn t = t' at *
              subst hp hc ht
              have wd := (((((((((wm.obj (p', cap, tmo, clk, cl, cut, X.length, sy, torn, T.2.2.2.2.2.2.2.2.2.1, T.2.2.2.2.2.2.2.2.2.2.1.length, tp.length, an.length)).obj (p', c', tmo, clk, cl, cut, X.length, sy, torn, T.2.2.2.2.2.2.2.2.2.1, T.2.2.2.2.2.2.2.2.2.2.1.length, tp.length, an.length)).obj (p', c', t', clk, cl, cut, X.length, sy, torn, T.2.2.2.2.2.2.2.2.2.1, T.2.2.2.2.2.2.2.2.2.2.1.length, tp.length, an.length)).obj (p', c', t', 0, cl, cut, X.length, sy, torn, T.2.2.2.2.2.2.2.2.2.1, T.2.2.2.2.2.2.2.2.2.2.1.length, tp.length, an.length)).obj (p', c', t', 0, false, cut, X.length, sy, torn, T.2.2.2.2.2.2.2.2.2.1, T.2.2.2.2.2.2.2.2.2.2.1.length, tp.length, an.length)).obj (p', c', t', 0, false, 0, X.length, sy, torn, T.2.2.2.2.2.2.2.2.2.1, T.2.2.2.2.2.2.2.2.2.2.1.length, tp.length, an.length)).obj (p', c', t', 0, false, 0, 0, sy, torn, T.2.2.2.2.2.2.2.2.2.1, T.2.2.2.2.2.2.2.2.2.2.1.length, tp.length, an.length)).obj (p', c', t', 0, false, 0, 0, 0, torn, T.2.2.2.2.2.2.2.2.2.1, T.2.2.2.2.2.2.2.2.2.2.1.length, tp.length, an.length)).obj (p', c', t', 0, false, 0, 0, 0, 0, T.2.2.2.2.2.2.2.2.2.1, T.2.2.2.2.2.2.2.2.2.2.1.length, tp.length, an.length)).obj (p', c', t', 0, false, 0, 0, 0, 0, T.2.2.2.2.2.2.2.2.2.1, T.2.2.2.2.2.2.2.2.2.2.1.length, tp.length, 0)
              refine gs_n 39 a_X5_format_38 rfl ?_
              refine gs_n 40 a_X5_format_39 rfl ?_
              refine gs_put 43 _ a_X5_format_40 f_5_87 (by first | assumption | exact hs_same _ _ _ | exact (hs_ne _ _ (by first | assumption | decide | omega)).trans (by first | assumption | exact hs_same _ _ _ | exact (hs_ne _ _ (by first | assumption | decide | omega)).trans (by first | assumption | exact hs_same _ _ _ | exact (hs_ne _ _ (by first | assumption | decide | omega)).trans (by first | assumption | exact hs_same _ _ _ | exact (hs_ne _ _ (by first | assumption | decide | omega)).trans (by first | assumption | exact hs_same _ _ _))))) (Nat.le_of_ble_eq_true rfl) rfl (fun z => absurd z (by decide)) rfl rfl ?_
              refine gs_n 44 a_X5_format_43 rfl ?_
              refine gs_n 45 a_X5_format_44 rfl ?_
              refine gs_put 48 _ a_X5_format_45 f_5_90 (by first | assumption | exact hs_same _ _ _ | exact (hs_ne _ _ (by first | assumption | decide | omega)).trans (by first | assumption | exact hs_same _ _ _ | exact (hs_ne _ _ (by first | assumption | decide | omega)).trans (by first | assumption | exact hs_same _ _ _ | exact (hs_ne _ _ (by first | assumption | decide | omega)).trans (by first | assumption | exact hs_same _ _ _ | exact (hs_ne _ _ (by first | assumption | decide | omega)).trans (by first | assumption | exact hs_same _ _ _))))) (Nat.le_of_ble_eq_true rfl) rfl (fun z => absurd z (by decide)) rfl rfl ?_
              refine gs_n 49 a_X5_format_48 rfl ?_
              refine gs_n 50 a_X5_format_49 rfl ?_
              refine gs_put 53 _ a_X5_format_50 f_5_93 (by first | assumption | exact hs_same _ _ _ | exact (hs_ne _ _ (by first | assumption | decide | omega)).trans (by first | assumption | exact hs_same _ _ _ | exact (hs_ne _ _ (by first | assumption | decide | omega)).trans (by first | assumption | exact hs_same _ _ _ | exact (hs_ne _ _ (by first | assumption | decide | omega)).trans (by first | assumption | exact hs_same _ _ _ | exact (hs_ne _ _ (by first | assumption | decide | omega)).trans (by first | assumption | exact hs_same _ _ _))))) (Nat.le_of_ble_eq_true rfl) rfl (fun z => absurd z (by decide)) rfl rfl ?_
              refine gs_n 54 a_X5_format_53 rfl ?_
              refine gs_k (nI 0) 55 a_X5_format_54 (by decide +kernel) rfl ?_
              refine gs_put 58 _ a_X5_format_55 f_5_96 (by first | assumption | exact hs_same _ _ _ | exact (hs_ne _ _ (by first | assumption | decide | omega)).trans (by first | assumption | exact hs_same _ _ _ | exact (hs_ne _ _ (by first | assumption | decide | omega)).trans (by first | assumption | exact hs_same _ _ _ | exact (hs_ne _ _ (by first | assumption | decide | omega)).trans (by first | assumption | exact hs_same _ _ _ | exact (hs_ne _ _ (by first | assumption | decide | omega)).trans (by first | assumption | exact hs_same _ _ _))))) (Nat.le_of_ble_eq_true rfl) rfl (fun z => absurd z (by decide)) rfl rfl ?_
              refine gs_n 59 a_X5_format_58 rfl ?_
              refine gs_k (nI 0) 60 a_X5_format_59 (by decide +kernel) rfl ?_
              refine gs_put 63 _ a_X5_format_60 f_5_99 (by first | assumption | exact hs_same _ _ _ | exact (hs_ne _ _ (by first | assumption | decide | omega)).trans (by first | assumption | exact hs_same _ _ _ | exact (hs_ne _ _ (by first | assumption | decide | omega)).trans (by first | assumption | exact hs_same _ _ _ | exact (hs_ne _ _ (by first | assumption | decide | omega)).trans (by first | assumption | exact hs_same _ _ _ | exact (hs_ne _ _ (by first | assumption | decide | omega)).trans (by first | assumption | exact hs_same _ _ _))))) (Nat.le_of_ble_eq_true rfl) rfl (fun z => absurd z (by decide)) rfl rfl ?_
              refine gs_n 64 a_X5_format_63 rfl ?_
              refine gs_k (nI 0) 65 a_X5_format_64 (by decide +kernel) rfl ?_
              refine gs_put 68 _ a_X5_format_65 f_5_103 (by first | assumption | exact hs_same _ _ _ | exact (hs_ne _ _ (by first | assumption | decide | omega)).trans (by first | assumption | exact hs_same _ _ _ | exact (hs_ne _ _ (by first | assumption | decide | omega)).trans (by first | assumption | exact hs_same _ _ _ | exact (hs_ne _ _ (by first | assumption | decide | omega)).trans (by first | assumption | exact hs_same _ _ _ | exact (hs_ne _ _ (by first | assumption | decide | omega)).trans (by first | assumption | exact hs_same _ _ _))))) (Nat.le_of_ble_eq_true rfl) rfl (fun z => absurd z (by decide)) rfl rfl ?_
              refine gs_n 69 a_X5_format_68 rfl ?_
              refine gs_k (nI 0) 70 a_X5_format_69 (by decide +kernel) rfl ?_
              refine gs_put 73 _ a_X5_format_70 f_5_106 (by first | assumption | exact hs_same _ _ _ | exact (hs_ne _ _ (by first | assumption | decide | omega)).trans (by first | assumption | exact hs_same _ _ _ | exact (hs_ne _ _ (by first | assumption | decide | omega)).trans (by first | assumption | exact hs_same _ _ _ | exact (hs_ne _ _ (by first | assumption | decide | omega)).trans (by first | assumption | exact hs_same _ _ _ | exact (hs_ne _ _ (by first | assumption | decide | omega)).trans (by first | assumption | exact hs_same _ _ _))))) (Nat.le_of_ble_eq_true rfl) rfl (fun z => absurd z (by decide)) rfl rfl ?_
              refine gs_n 74 a_X5_format_73 rfl ?_
              refine gs_k (nI 0) 75 a_X5_format_74 (by decide +kernel) rfl ?_
              refine gs_put 78 _ a_X5_format_75 f_5_109 (by first | assumption | exact hs_same _ _ _ | exact (hs_ne _ _ (by first | assumption | decide | omega)).trans (by first | assumption | exact hs_same _ _ _ | exact (hs_ne _ _ (by first | assumption | decide | omega)).trans (by first | assumption | exact hs_same _ _ _ | exact (hs_ne _ _ (by first | assumption | decide | omega)).trans (by first | assumption | exact hs_same _ _ _ | exact (hs_ne _ _ (by first | assumption | decide | omega)).trans (by first | assumption | exact hs_same _ _ _))))) (Nat.le_of_ble_eq_true rfl) rfl (fun z => absurd z (by decide)) rfl rfl ?_
              refine gs_n 79 a_X5_format_78 rfl ?_
              refine gs_k (nI 0) 80 a_X5_format_79 (by decide +kernel) rfl ?_
              refine gs_put 83 _ a_X5_format_80 f_5_112 (by first | assumption | exact hs_same _ _ _ | exact (hs_ne _ _ (by first | assumption | decide | omega)).trans (by first | assumption | exact hs_same _ _ _ | exact (hs_ne _ _ (by first | assumption | decide | omega)).trans (by first | assumption | exact hs_same _ _ _ | exact (hs_ne _ _ (by first | assumption | decide | omega)).trans (by first | assumption | exact hs_same _ _ _ | exact (hs_ne _ _ (by first | assumption | decide | omega)).trans (by first | assumption | exact hs_same _ _ _))))) (Nat.le_of_ble_eq_true rfl) rfl (fun z => absurd z (by decide)) rfl rfl ?_
              refine gs_n 84 a_X5_format_83 rfl ?_
              refine gs_k (nI 0) 85 a_X5_format_84 (by decide +kernel) rfl ?_
              refine gs_put 88 _ a_X5_format_85 f_5_115 (by first | assumption | exact hs_same _ _ _ | exact (hs_ne _ _ (by first | assumption | decide | omega)).trans (by first | assumption | exact hs_same _ _ _ | exact (hs_ne _ _ (by first | assumption | decide | omega)).trans (by first | assumption | exact hs_same _ _ _ | exact (hs_ne _ _ (by first | assumption | decide | omega)).trans (by first | assumption | exact hs_same _ _ _ | exact (hs_ne _ _ (by first | assumption | decide | omega)).trans (by first | assumption | exact hs_same _ _ _))))) (Nat.le_of_ble_eq_true rfl) rfl (fun z => absurd z (by decide)) rfl rfl ?_
              refine gs_n 89 a_X5_format_88 rfl ?_
              refine gs_cv 92 a_X5_format_89 k_5_118 q_X5_forgets (m_forgets wd) rfl rfl rfl (by simp [Value.category]) (by first | assumption | exact hs_same _ _ _ | exact (hs_ne _ _ (by first | assumption | decide | omega)).trans (by first | assumption | exact hs_same _ _ _ | exact (hs_ne _ _ (by first | assumption | decide | omega)).trans (by first | assumption | exact hs_same _ _ _ | exact (hs_ne _ _ (by first | assumption | decide | omega)).trans (by first | assumption | exact hs_same _ _ _ | exact (hs_ne _ _ (by first | assumption | decide | omega)).trans (by first | assumption | exact hs_same _ _ _))))) rfl (fun v h3 hp => ?_)
              obtain ⟨e1, hF3, A, w3, hTA, hA⟩ := hp
              simp only at e1
              subst e1
              refine gs_k (nI 1) 93 a_X5_format_92 (by decide +kernel) rfl ?_
              refine gs_iret a_X5_format_93 rfl rfl ?_
              refine ⟨rfl, ((((((((((FS.m _ (by omega)).trans (FS.m _ (by omega))).trans (FS.m _ (by omega))).trans (FS.m _ (by omega))).trans (FS.m _ (by omega))).trans (FS.m _ (by omega))).trans (FS.m _ (by omega))).trans (FS.m _ (by omega))).trans (FS.m _ (by omega))).trans (FS.m _ (by omega))).trans hF3, ?_⟩
              refine RE.mk' (T := T0) (ar := A) w3 ⟨Nat.zero_le _, fun e he => absurd he (by simp), fun i hi => absurd hi (Nat.not_lt_zero i)⟩ (fun z => absurd z (by omega)) hTA ?_ (fun i hi => absurd hi (Nat.not_lt_zero i))
              intro i hi
              rw [hA 18 (by omega)]
              exact h18 i hi
            · have c33 : ¬ t ≤ nI 1000 := c33
              rw [le_lit (by omega)] at c33
              refine gs_w [(0, .ref 96), (1, .int p), (2, .int c), (3, .int t)] (by simp [ix_nd]) (by intro x hx; simp only [List.mem_cons, List.not_mem_nil, or_false] at hx; rcases hx with rfl | rfl | rfl | rfl <;> rfl) ?_
              exact bad (by omega)
end R13
