/-! OnceLedger: forget, build, format -/
abbrev LgT : Type := Nat → (List En × List Nat) ⊕ (List En × Nat)
def LgS (h : ix_H) (p : Nat) : (List En × List Nat) ⊕ (List En × Nat) → Prop
  | .inl (es, tn) => LogAt h (16 + 6 * p) es tn
  | .inr (es, n) => LogC h (16 + 6 * p) es es.length n
abbrev oE (a b c d e f g : Int32) : ix_E := .inr (4, [.ref 1, .ref 3, .ref 5, .ref 7, .ref 8, .ref 10, .ref 14, .ref 15, .int a, .int b, .int c, .int d, .int e, .int f, .int g])
/-- the cells, whatever they hold -/
def CV (h : ix_H) (o : ix_E) (ls : LgT) (bb : List Nat) (un : List (Nat × Nat)) (pr : Nat → PS) (mk : Nat → Int32) (tp an : List Nat) : Prop :=
  h.2.2 0 = o ∧ RowAt h 1 2 40 tp ∧ RowAt h 3 4 40 an ∧ RowAt h 5 6 0 [] ∧
  (∃ f, h.2.2 7 = .inl (.object RX1, 8, .inr (.inr (.inr (.inr f)))) ∧ ∀ i, i < 8 → f i = some (16 + 6 * i)) ∧
  RowAt h 8 9 16000 bb ∧ UnsAt h 10 un ∧
  (∃ f, h.2.2 14 = .inl (.object RX2, 32, .inr (.inr (.inr (.inr f)))) ∧ ∀ i, i < 32 → f i = some (64 + i)) ∧
  (∃ f, h.2.2 15 = .inl (.int, 64, .inl f) ∧ ∀ i, i < 64 → f i = mk i) ∧
  (∀ p, p < 8 → LgS h p (ls p)) ∧ (∀ k, k < 32 → h.2.2 (64 + k) = pcE (pr k))
section CVs
variable {d : Nat} {h h' : ix_H} {o o' : ix_E} {ls : LgT} {bb bb' : List Nat} {un un' : List (Nat × Nat)} {pr : Nat → PS} {mk mk' : Nat → Int32} {tp an an' : List Nat}
theorem LgS.keep {p : Nat} {x : (List En × List Nat) ⊕ (List En × Nat)} (hl : LgS h p x) (he : ∀ i, i < 6 → h'.2.2 (16 + 6 * p + i) = h.2.2 (16 + 6 * p + i)) : LgS h' p x := by
  rcases x with ⟨es, tn⟩ | ⟨es, n⟩
  · exact LogAt.keep hl he
  · obtain ⟨g1, g2, ⟨f3, g3, g3'⟩, ⟨f4, g4⟩, ⟨f5, g5⟩, g7⟩ := hl
    exact ⟨(he 0 (by omega)).trans g1, g2.fr (he 1 (by omega)) (he 2 (by omega)), ⟨f3, (he 3 (by omega)).trans g3, g3'⟩, ⟨f4, (he 4 (by omega)).trans g4⟩, ⟨f5, (he 5 (by omega)).trans g5⟩, g7⟩
theorem CV.obj (w : CV h o ls bb un pr mk tp an) (hF : Fr [0] h h') (ho : h'.2.2 0 = o') : CV h' o' ls bb un pr mk tp an := by
  obtain ⟨w1, w3, w4, w5, ⟨f6, w6, w6'⟩, w7, w8, ⟨f9, w9, w9'⟩, ⟨f10, w10, w10'⟩, w11, w12⟩ := w
  have e : ∀ k, k ≠ 0 → h'.2.2 k = h.2.2 k := fun k hk => hF.2.2 k (by simpa using hk)
  exact ⟨ho, w3.fr (e _ (by omega)) (e _ (by omega)), w4.fr (e _ (by omega)) (e _ (by omega)), w5.fr (e _ (by omega)) (e _ (by omega)), ⟨f6, (e _ (by omega)).trans w6, w6'⟩, w7.fr (e _ (by omega)) (e _ (by omega)), w8.fr (e _ (by omega)) (e _ (by omega)) (e _ (by omega)) (e _ (by omega)), ⟨f9, (e _ (by omega)).trans w9, w9'⟩, ⟨f10, (e _ (by omega)).trans w10, w10'⟩, fun p hp => (w11 p hp).keep (fun i hi => e _ (by omega)), fun k hk => (e _ (by omega)).trans (w12 k hk)⟩
theorem CV.ans (w : CV h o ls bb un pr mk tp an) (hF : Fr [3, 4] h h') (ho : RowAt h' 3 4 40 an') : CV h' o ls bb un pr mk tp an' := by
  obtain ⟨w1, w3, w4, w5, ⟨f6, w6, w6'⟩, w7, w8, ⟨f9, w9, w9'⟩, ⟨f10, w10, w10'⟩, w11, w12⟩ := w
  have e : ∀ k, k ≠ 3 → k ≠ 4 → h'.2.2 k = h.2.2 k := fun k h1 h2 => hF.2.2 k (by simp; omega)
  exact ⟨(e _ (by omega) (by omega)).trans w1, w3.fr (e _ (by omega) (by omega)) (e _ (by omega) (by omega)), ho, w5.fr (e _ (by omega) (by omega)) (e _ (by omega) (by omega)), ⟨f6, (e _ (by omega) (by omega)).trans w6, w6'⟩, w7.fr (e _ (by omega) (by omega)) (e _ (by omega) (by omega)), w8.fr (e _ (by omega) (by omega)) (e _ (by omega) (by omega)) (e _ (by omega) (by omega)) (e _ (by omega) (by omega)), ⟨f9, (e _ (by omega) (by omega)).trans w9, w9'⟩, ⟨f10, (e _ (by omega) (by omega)).trans w10, w10'⟩, fun p hp => (w11 p hp).keep (fun i hi => e _ (by omega) (by omega)), fun k hk => (e _ (by omega) (by omega)).trans (w12 k hk)⟩
theorem CV.book (w : CV h o ls bb un pr mk tp an) (hF : Fr [8, 9] h h') (ho : RowAt h' 8 9 16000 bb') : CV h' o ls bb' un pr mk tp an := by
  obtain ⟨w1, w3, w4, w5, ⟨f6, w6, w6'⟩, w7, w8, ⟨f9, w9, w9'⟩, ⟨f10, w10, w10'⟩, w11, w12⟩ := w
  have e : ∀ k, k ≠ 8 → k ≠ 9 → h'.2.2 k = h.2.2 k := fun k h1 h2 => hF.2.2 k (by simp; omega)
  exact ⟨(e _ (by omega) (by omega)).trans w1, w3.fr (e _ (by omega) (by omega)) (e _ (by omega) (by omega)), w4.fr (e _ (by omega) (by omega)) (e _ (by omega) (by omega)), w5.fr (e _ (by omega) (by omega)) (e _ (by omega) (by omega)), ⟨f6, (e _ (by omega) (by omega)).trans w6, w6'⟩, ho, w8.fr (e _ (by omega) (by omega)) (e _ (by omega) (by omega)) (e _ (by omega) (by omega)) (e _ (by omega) (by omega)), ⟨f9, (e _ (by omega) (by omega)).trans w9, w9'⟩, ⟨f10, (e _ (by omega) (by omega)).trans w10, w10'⟩, fun p hp => (w11 p hp).keep (fun i hi => e _ (by omega) (by omega)), fun k hk => (e _ (by omega) (by omega)).trans (w12 k hk)⟩
theorem CV.uns (w : CV h o ls bb un pr mk tp an) (hF : Fr [10, 11, 12, 13] h h') (ho : UnsAt h' 10 un') : CV h' o ls bb un' pr mk tp an := by
  obtain ⟨w1, w3, w4, w5, ⟨f6, w6, w6'⟩, w7, w8, ⟨f9, w9, w9'⟩, ⟨f10, w10, w10'⟩, w11, w12⟩ := w
  have e : ∀ k, (k < 10 ∨ 13 < k) → h'.2.2 k = h.2.2 k := fun k h1 => hF.2.2 k (by simp; omega)
  exact ⟨(e _ (by omega)).trans w1, w3.fr (e _ (by omega)) (e _ (by omega)), w4.fr (e _ (by omega)) (e _ (by omega)), w5.fr (e _ (by omega)) (e _ (by omega)), ⟨f6, (e _ (by omega)).trans w6, w6'⟩, w7.fr (e _ (by omega)) (e _ (by omega)), ho, ⟨f9, (e _ (by omega)).trans w9, w9'⟩, ⟨f10, (e _ (by omega)).trans w10, w10'⟩, fun p hp => (w11 p hp).keep (fun i hi => e _ (by omega)), fun k hk => (e _ (by omega)).trans (w12 k hk)⟩
theorem CV.marks (w : CV h o ls bb un pr mk tp an) (hF : Fr [15] h h') (ho : ∃ f, h'.2.2 15 = .inl (.int, 64, .inl f) ∧ ∀ i, i < 64 → f i = mk' i) : CV h' o ls bb un pr mk' tp an := by
  obtain ⟨w1, w3, w4, w5, ⟨f6, w6, w6'⟩, w7, w8, ⟨f9, w9, w9'⟩, ⟨f10, w10, w10'⟩, w11, w12⟩ := w
  have e : ∀ k, k ≠ 15 → h'.2.2 k = h.2.2 k := fun k h1 => hF.2.2 k (by simpa using h1)
  exact ⟨(e _ (by omega)).trans w1, w3.fr (e _ (by omega)) (e _ (by omega)), w4.fr (e _ (by omega)) (e _ (by omega)), w5.fr (e _ (by omega)) (e _ (by omega)), ⟨f6, (e _ (by omega)).trans w6, w6'⟩, w7.fr (e _ (by omega)) (e _ (by omega)), w8.fr (e _ (by omega)) (e _ (by omega)) (e _ (by omega)) (e _ (by omega)), ⟨f9, (e _ (by omega)).trans w9, w9'⟩, ho, fun p hp => (w11 p hp).keep (fun i hi => e _ (by omega)), fun k hk => (e _ (by omega)).trans (w12 k hk)⟩
theorem CV.prod (w : CV h o ls bb un pr mk tp an) {k0 : Nat} {s : PS} (hk0 : k0 < 32) (hF : Fr [64 + k0] h h') (ho : h'.2.2 (64 + k0) = pcE s) : CV h' o ls bb un (va_up pr k0 s) mk tp an := by
  obtain ⟨w1, w3, w4, w5, ⟨f6, w6, w6'⟩, w7, w8, ⟨f9, w9, w9'⟩, ⟨f10, w10, w10'⟩, w11, w12⟩ := w
  have e : ∀ k, k ≠ 64 + k0 → h'.2.2 k = h.2.2 k := fun k h1 => hF.2.2 k (by simpa using h1)
  refine ⟨(e _ (by omega)).trans w1, w3.fr (e _ (by omega)) (e _ (by omega)), w4.fr (e _ (by omega)) (e _ (by omega)), w5.fr (e _ (by omega)) (e _ (by omega)), ⟨f6, (e _ (by omega)).trans w6, w6'⟩, w7.fr (e _ (by omega)) (e _ (by omega)), w8.fr (e _ (by omega)) (e _ (by omega)) (e _ (by omega)) (e _ (by omega)), ⟨f9, (e _ (by omega)).trans w9, w9'⟩, ⟨f10, (e _ (by omega)).trans w10, w10'⟩, fun p hp => (w11 p hp).keep (fun i hi => e _ (by omega)), fun k hk => ?_⟩
  by_cases z : k = k0
  · subst z
    rw [ho, va_up_self]
  · rw [e _ (by omega), w12 k hk, va_up_ne _ _ z]
theorem CV.log (w : CV h o ls bb un pr mk tp an) {p0 : Nat} {x : (List En × List Nat) ⊕ (List En × Nat)} (hp0 : p0 < 8) (hF : FS (fun k => (16 + 6 * p0) ≤ k ∧ k < (16 + 6 * p0) + 6) h h') (ho : LgS h' p0 x) : CV h' o (va_up ls p0 x) bb un pr mk tp an := by
  obtain ⟨w1, w3, w4, w5, ⟨f6, w6, w6'⟩, w7, w8, ⟨f9, w9, w9'⟩, ⟨f10, w10, w10'⟩, w11, w12⟩ := w
  have e : ∀ k, (k < (16 + 6 * p0) ∨ (16 + 6 * p0) + 6 ≤ k) → h'.2.2 k = h.2.2 k := fun k h1 => hF.2.2 k (by omega)
  refine ⟨(e _ (by omega)).trans w1, w3.fr (e _ (by omega)) (e _ (by omega)), w4.fr (e _ (by omega)) (e _ (by omega)), w5.fr (e _ (by omega)) (e _ (by omega)), ⟨f6, (e _ (by omega)).trans w6, w6'⟩, w7.fr (e _ (by omega)) (e _ (by omega)), w8.fr (e _ (by omega)) (e _ (by omega)) (e _ (by omega)) (e _ (by omega)), ⟨f9, (e _ (by omega)).trans w9, w9'⟩, ⟨f10, (e _ (by omega)).trans w10, w10'⟩, fun p hp => ?_, fun k hk => (e _ (by omega)).trans (w12 k hk)⟩
  by_cases z : p = p0
  · subst z
    rw [va_up_self]
    exact ho
  · rw [va_up_ne _ _ z]
    exact (w11 p hp).keep (fun i hi => e _ (by omega))
theorem CW.cv {sc : SC} {lg : Nat → List En} {tn : Nat → List Nat} {bk : List En} {bt : List Nat} (w : CW h sc lg tn bk bt un pr mk tp an) : CV h (ocell sc) (fun p => .inl (lg p, tn p)) (bk.flatMap encB ++ bt) un pr mk tp an := by
  obtain ⟨w1, w2, w3, w4, w5, w6, w7, w8, w9, w10, w11, w12, w13⟩ := w
  exact ⟨w1, w3, w4, w5, w6, w7, w8, w9, w10, w11, w12⟩
theorem CV.cw {sc : SC} {lg : Nat → List En} {tn : Nat → List Nat} {bk : List En} {bt : List Nat} (w : CV h (ocell sc) (fun p => .inl (lg p, tn p)) (bk.flatMap encB ++ bt) un pr mk tp an) (h1 : scOk sc) (h2 : ∀ e ∈ bk, okB e) : CW h sc lg tn bk bt un pr mk tp an := by
  obtain ⟨w1, w3, w4, w5, w6, w7, w8, w9, w10, w11, w12⟩ := w
  exact ⟨w1, h1, w3, w4, w5, w6, w7, w8, w9, w10, w11, w12, h2⟩
def fgt (s : PS) : PS := (-1, -1, -1, s.2.2.2.1, nI 0, nI 0, -1)
theorem l_forget {a b c e f g x : Int32} : ∀ (r j : Nat) (h : ix_H), j + r = 32 → CV h (oE a b c e f g x) ls bb un (fun k => if k < j then fgt (pr k) else pr k) mk tp an →
    gs none (d + 2) mD_X4_forget (2, [(1, .int (nI j)), (0, .ref 0)], [], h) (fun u => u.1 = none ∧ FS cC h u.2 ∧ CV u.2 (oE a b c e f g (nI 0)) ls bb un (fun k => if k < 32 then fgt (pr k) else pr k) (fun _ => -1) tp an) := by
  intro r
  induction r with
  | zero =>
    intro j h hj w
    obtain rfl : j = 32 := by omega
    have w1 := w.1
    obtain ⟨mf, hm1, hm2⟩ := w.2.2.2.2.2.2.2.2.1
    refine gs_n 3 a_X4_forget_2 rfl ?_
    refine gs_k (nI 32) 5 a_X4_forget_3 (by decide +kernel) rfl ?_
    refine gs_ic 23 8 a_X4_forget_5 rfl rfl (fun c5 => ?_) (fun c5 => ?_)
    · refine gs_n 24 a_X4_forget_23 rfl ?_
      refine gs_get 27 a_X4_forget_24 f_4_46 (by first | assumption | exact hs_same _ _ _ | exact (hs_ne _ _ (by first | assumption | decide | omega)).trans (by first | assumption | exact hs_same _ _ _ | exact (hs_ne _ _ (by first | assumption | decide | omega)).trans (by first | assumption | exact hs_same _ _ _ | exact (hs_ne _ _ (by first | assumption | decide | omega)).trans (by first | assumption | exact hs_same _ _ _ | exact (hs_ne _ _ (by first | assumption | decide | omega)).trans (by first | assumption | exact hs_same _ _ _))))) rfl rfl ?_
      refine gs_k (-1) 28 a_X4_forget_27 (by decide +kernel) rfl ?_
      refine gs_cs 31 a_X4_forget_28 k_4_234 q_J7_fill_53178 (e_fill (-1) (by omega) hm1) rfl rfl rfl (by simp [Value.category]) rfl (fun v h2 hp => ?_)
      obtain ⟨e1, hF, hg⟩ := hp
      simp only at e1
      subst e1
      have w2 := w.marks (mk' := fun _ => -1) hF hg
      have k1 := w2.1
      refine gs_n 32 a_X4_forget_31 rfl ?_
      refine gs_k (nI 0) 33 a_X4_forget_32 (by decide +kernel) rfl ?_
      refine gs_put 36 _ a_X4_forget_33 f_4_95 (by first | assumption | exact hs_same _ _ _ | exact (hs_ne _ _ (by first | assumption | decide | omega)).trans (by first | assumption | exact hs_same _ _ _ | exact (hs_ne _ _ (by first | assumption | decide | omega)).trans (by first | assumption | exact hs_same _ _ _ | exact (hs_ne _ _ (by first | assumption | decide | omega)).trans (by first | assumption | exact hs_same _ _ _ | exact (hs_ne _ _ (by first | assumption | decide | omega)).trans (by first | assumption | exact hs_same _ _ _))))) (Nat.le_of_ble_eq_true rfl) rfl (fun z => absurd z (by decide)) rfl rfl ?_
      refine gs_vret a_X4_forget_36 rfl ?_
      exact ⟨rfl, (FS.of hF (by intro k hk; simp at hk; subst hk; unfold cC; omega)).trans (FS.of (Fr.set _ (List.mem_singleton.mpr rfl)) (by intro k hk; simp at hk; subst hk; unfold cC; omega)), w2.obj (Fr.set _ (by simp)) (hs_same _ _ _)⟩
    · exact absurd (nI_le (Nat.le_refl 32) (by omega)) c5
  | succ r ih =>
    intro j h hj w
    have hj32 : j < 32 := by omega
    have w1 := w.1
    obtain ⟨pf, hp1, hp2⟩ := w.2.2.2.2.2.2.2.1
    have hc := w.2.2.2.2.2.2.2.2.2.2 j hj32
    simp only [Nat.lt_irrefl, if_false] at hc
    refine gs_n 3 a_X4_forget_2 rfl ?_
    refine gs_k (nI 32) 5 a_X4_forget_3 (by decide +kernel) rfl ?_
    refine gs_ic 23 8 a_X4_forget_5 rfl rfl (fun c5 => ?_) (fun c5 => ?_)
    · exact absurd c5 (nI_ge (by omega) (by omega))
    · refine gs_n 9 a_X4_forget_8 rfl ?_
      refine gs_get 12 a_X4_forget_9 f_4_42 (by first | assumption | exact hs_same _ _ _ | exact (hs_ne _ _ (by first | assumption | decide | omega)).trans (by first | assumption | exact hs_same _ _ _ | exact (hs_ne _ _ (by first | assumption | decide | omega)).trans (by first | assumption | exact hs_same _ _ _ | exact (hs_ne _ _ (by first | assumption | decide | omega)).trans (by first | assumption | exact hs_same _ _ _ | exact (hs_ne _ _ (by first | assumption | decide | omega)).trans (by first | assumption | exact hs_same _ _ _))))) rfl rfl ?_
      refine gs_n 13 a_X4_forget_12 rfl ?_
      refine gs_aa j (64 + j) 14 a_X4_forget_13 (by first | assumption | exact hs_same _ _ _ | exact (hs_ne _ _ (by first | assumption | decide | omega)).trans (by first | assumption | exact hs_same _ _ _ | exact (hs_ne _ _ (by first | assumption | decide | omega)).trans (by first | assumption | exact hs_same _ _ _ | exact (hs_ne _ _ (by first | assumption | decide | omega)).trans (by first | assumption | exact hs_same _ _ _ | exact (hs_ne _ _ (by first | assumption | decide | omega)).trans (by first | assumption | exact hs_same _ _ _))))) rfl (by omega) (by decide) (by simp) (hp2 j hj32) rfl ?_
      refine gs_cv 17 a_X4_forget_14 k_4_233 q_X2_forget (e_forget hc) rfl rfl rfl (by simp [Value.category]) (by first | assumption | exact hs_same _ _ _ | exact (hs_ne _ _ (by first | assumption | decide | omega)).trans (by first | assumption | exact hs_same _ _ _ | exact (hs_ne _ _ (by first | assumption | decide | omega)).trans (by first | assumption | exact hs_same _ _ _ | exact (hs_ne _ _ (by first | assumption | decide | omega)).trans (by first | assumption | exact hs_same _ _ _ | exact (hs_ne _ _ (by first | assumption | decide | omega)).trans (by first | assumption | exact hs_same _ _ _))))) rfl (fun v h2 hp => ?_)
      obtain ⟨e1, hF, hc2⟩ := hp
      simp only at e1
      subst e1
      have w2 := w.prod hj32 hF (s := fgt (pr j)) hc2
      have e2 : va_up (fun k => if k < j then fgt (pr k) else pr k) j (fgt (pr j)) = fun k => if k < j + 1 then fgt (pr k) else pr k := by
        funext k
        by_cases z : k = j
        · subst z; rw [va_up_self, if_pos (by omega)]
        · rw [va_up_ne _ _ z]
          by_cases y : k < j
          · rw [if_pos y, if_pos (by omega)]
          · rw [if_neg y, if_neg (by omega)]
      rw [e2] at w2
      first | refine gs_inc _ 20 a_X4_forget_17 rfl (Nat.le_of_ble_eq_true rfl) rfl ?_ | refine gs_n 20 a_X4_forget_17 rfl ?_
      refine gs_n 2 a_X4_forget_20 rfl ?_
      refine gs_w [(1, .int (nI (j + 1))), (0, .ref 0)] (by simp [ix_nd]) (by intro x hx; simp only [List.mem_cons, List.not_mem_nil, or_false] at hx; rcases hx with rfl | rfl <;> rfl) ?_
      refine gs_post (ih (j + 1) h2 (by omega) w2) ?_
      rintro u ⟨q1, q2, q3⟩
      exact ⟨q1, (FS.of hF (cC_p hj32)).trans q2, q3⟩
theorem c_forget {a b c e f g x : Int32} (w : CV h (oE a b c e f g x) ls bb un pr mk tp an) : ev (d + 3) n_X4_forget [.ref 0] h (fun u => u.1 = none ∧ FS cC h u.2 ∧ CV u.2 (oE a b c e f g (nI 0)) ls bb un (fun k => if k < 32 then fgt (pr k) else pr k) (fun _ => -1) tp an) := by
  refine ev_of q_X4_forget (Nat.le_of_ble_eq_true rfl) ?_
  refine gs_k (nI 0) 1 a_X4_forget_0 (by decide +kernel) rfl ?_
  refine gs_n 2 a_X4_forget_1 rfl ?_
  refine gs_w [(1, .int (nI 0)), (0, .ref 0)] (by simp [ix_nd]) (by intro x hx; simp only [List.mem_cons, List.not_mem_nil, or_false] at hx; rcases hx with rfl | rfl <;> rfl) ?_
  exact l_forget 32 0 h (by omega) (by simpa using w)
theorem l_build {lg : Nat → List En} {tn : Nat → List Nat} {a b c e f g x : Int32} {l1 l2 l3 : Value} : ∀ (r j : Nat) (h : ix_H), j + r = 8 → CV h (oE a b c e f g x) (fun p => if p < j then .inl ([], []) else .inl (lg p, tn p)) bb un pr mk tp an →
    gs none (d + 3) mD_X4_build (33, [(4, .int (nI j)), (0, .ref 0)], [], h) (fun u => u.1 = none ∧ FS cC h u.2 ∧ CV u.2 (oE a b c e f g (nI 0)) (fun p => if p < 8 then .inl ([], []) else .inl (lg p, tn p)) [] [] (fun k => if k < 32 then fgt (pr k) else pr k) (fun _ => -1) tp []) := by
  intro r
  induction r with
  | zero =>
    intro j h hj w
    obtain rfl : j = 8 := by omega
    have w1 := w.1
    have hb := w.2.2.2.2.2.1
    have hb1 := hb.1
    refine gs_n 35 a_X4_build_33 rfl ?_
    refine gs_k (nI 8) 37 a_X4_build_35 (by decide +kernel) rfl ?_
    refine gs_ic 56 40 a_X4_build_37 rfl rfl (fun c5 => ?_) (fun c5 => ?_)
    · refine gs_n 57 a_X4_build_56 rfl ?_
      refine gs_get 60 a_X4_build_57 f_4_30 (by first | assumption | exact hs_same _ _ _ | exact (hs_ne _ _ (by first | assumption | decide | omega)).trans (by first | assumption | exact hs_same _ _ _ | exact (hs_ne _ _ (by first | assumption | decide | omega)).trans (by first | assumption | exact hs_same _ _ _ | exact (hs_ne _ _ (by first | assumption | decide | omega)).trans (by first | assumption | exact hs_same _ _ _ | exact (hs_ne _ _ (by first | assumption | decide | omega)).trans (by first | assumption | exact hs_same _ _ _))))) rfl rfl ?_
      refine gs_cv 63 a_X4_build_60 k_4_109 q_X0_clear (e_clear hb) rfl rfl rfl (by simp [Value.category]) (by first | assumption | exact hs_same _ _ _ | exact (hs_ne _ _ (by first | assumption | decide | omega)).trans (by first | assumption | exact hs_same _ _ _ | exact (hs_ne _ _ (by first | assumption | decide | omega)).trans (by first | assumption | exact hs_same _ _ _ | exact (hs_ne _ _ (by first | assumption | decide | omega)).trans (by first | assumption | exact hs_same _ _ _ | exact (hs_ne _ _ (by first | assumption | decide | omega)).trans (by first | assumption | exact hs_same _ _ _))))) rfl (fun v h2 hp => ?_)
      obtain ⟨e1, hF2, hr2⟩ := hp
      simp only at e1
      subst e1
      have w2 := w.book hF2 hr2
      have k2 := w2.1
      have hu := w2.2.2.2.2.2.2.1
      have hu1 := hu.1
      refine gs_n 64 a_X4_build_63 rfl ?_
      refine gs_get 67 a_X4_build_64 f_4_36 (by first | assumption | exact hs_same _ _ _ | exact (hs_ne _ _ (by first | assumption | decide | omega)).trans (by first | assumption | exact hs_same _ _ _ | exact (hs_ne _ _ (by first | assumption | decide | omega)).trans (by first | assumption | exact hs_same _ _ _ | exact (hs_ne _ _ (by first | assumption | decide | omega)).trans (by first | assumption | exact hs_same _ _ _ | exact (hs_ne _ _ (by first | assumption | decide | omega)).trans (by first | assumption | exact hs_same _ _ _))))) rfl rfl ?_
      refine gs_cv 70 a_X4_build_67 k_4_145 q_X3_clear (e_uclear hu) rfl rfl rfl (by simp [Value.category]) (by first | assumption | exact hs_same _ _ _ | exact (hs_ne _ _ (by first | assumption | decide | omega)).trans (by first | assumption | exact hs_same _ _ _ | exact (hs_ne _ _ (by first | assumption | decide | omega)).trans (by first | assumption | exact hs_same _ _ _ | exact (hs_ne _ _ (by first | assumption | decide | omega)).trans (by first | assumption | exact hs_same _ _ _ | exact (hs_ne _ _ (by first | assumption | decide | omega)).trans (by first | assumption | exact hs_same _ _ _))))) rfl (fun v h3 hp => ?_)
      obtain ⟨e1, hF3, hr3⟩ := hp
      simp only at e1
      subst e1
      have w3 := w2.uns (hF3.mono (by intro k hk; simp at hk ⊢; omega)) hr3
      have k3 := w3.1
      have ha := w3.2.2.1
      have ha1 := ha.1
      refine gs_n 71 a_X4_build_70 rfl ?_
      refine gs_get 74 a_X4_build_71 f_4_18 (by first | assumption | exact hs_same _ _ _ | exact (hs_ne _ _ (by first | assumption | decide | omega)).trans (by first | assumption | exact hs_same _ _ _ | exact (hs_ne _ _ (by first | assumption | decide | omega)).trans (by first | assumption | exact hs_same _ _ _ | exact (hs_ne _ _ (by first | assumption | decide | omega)).trans (by first | assumption | exact hs_same _ _ _ | exact (hs_ne _ _ (by first | assumption | decide | omega)).trans (by first | assumption | exact hs_same _ _ _))))) rfl rfl ?_
      refine gs_cv 77 a_X4_build_74 k_4_109 q_X0_clear (e_clear ha) rfl rfl rfl (by simp [Value.category]) (by first | assumption | exact hs_same _ _ _ | exact (hs_ne _ _ (by first | assumption | decide | omega)).trans (by first | assumption | exact hs_same _ _ _ | exact (hs_ne _ _ (by first | assumption | decide | omega)).trans (by first | assumption | exact hs_same _ _ _ | exact (hs_ne _ _ (by first | assumption | decide | omega)).trans (by first | assumption | exact hs_same _ _ _ | exact (hs_ne _ _ (by first | assumption | decide | omega)).trans (by first | assumption | exact hs_same _ _ _))))) rfl (fun v h4 hp => ?_)
      obtain ⟨e1, hF4, hr4⟩ := hp
      simp only at e1
      subst e1
      have w4 := w3.ans hF4 hr4
      have k4 := w4.1
      refine gs_n 78 a_X4_build_77 rfl ?_
      refine gs_cv 81 a_X4_build_78 k_4_165 q_X4_forget (c_forget w4) rfl rfl rfl (by simp [Value.category]) (by first | assumption | exact hs_same _ _ _ | exact (hs_ne _ _ (by first | assumption | decide | omega)).trans (by first | assumption | exact hs_same _ _ _ | exact (hs_ne _ _ (by first | assumption | decide | omega)).trans (by first | assumption | exact hs_same _ _ _ | exact (hs_ne _ _ (by first | assumption | decide | omega)).trans (by first | assumption | exact hs_same _ _ _ | exact (hs_ne _ _ (by first | assumption | decide | omega)).trans (by first | assumption | exact hs_same _ _ _))))) rfl (fun v h5 hp => ?_)
      obtain ⟨e1, hF5, w5⟩ := hp
      simp only at e1
      subst e1
      refine gs_vret a_X4_build_81 rfl ?_
      exact ⟨rfl, (((FS.of hF2 cC_b).trans (FS.of hF3 (by intro k hk; simp at hk; unfold cC; omega))).trans (FS.of hF4 (by intro k hk; simp at hk; unfold cC; omega))).trans hF5, w5⟩
    · exact absurd (nI_le (Nat.le_refl 8) (by omega)) c5
  | succ r ih =>
    intro j h hj w
    have hj8 : j < 8 := by omega
    have w1 := w.1
    obtain ⟨pf, hp1, hp2⟩ := w.2.2.2.2.1
    have hl := w.2.2.2.2.2.2.2.2.2.1 j hj8
    simp only [Nat.lt_irrefl, if_false] at hl
    have hl : LogAt h (16 + 6 * j) (lg j) (tn j) := hl
    have hl1 := hl.1
    refine gs_n 35 a_X4_build_33 rfl ?_
    refine gs_k (nI 8) 37 a_X4_build_35 (by decide +kernel) rfl ?_
    refine gs_ic 56 40 a_X4_build_37 rfl rfl (fun c5 => ?_) (fun c5 => ?_)
    · exact absurd c5 (nI_ge (by omega) (by omega))
    · refine gs_n 41 a_X4_build_40 rfl ?_
      refine gs_get 44 a_X4_build_41 f_4_26 (by first | assumption | exact hs_same _ _ _ | exact (hs_ne _ _ (by first | assumption | decide | omega)).trans (by first | assumption | exact hs_same _ _ _ | exact (hs_ne _ _ (by first | assumption | decide | omega)).trans (by first | assumption | exact hs_same _ _ _ | exact (hs_ne _ _ (by first | assumption | decide | omega)).trans (by first | assumption | exact hs_same _ _ _ | exact (hs_ne _ _ (by first | assumption | decide | omega)).trans (by first | assumption | exact hs_same _ _ _))))) rfl rfl ?_
      refine gs_n 46 a_X4_build_44 rfl ?_
      refine gs_aa j (16 + 6 * j) 47 a_X4_build_46 (by first | assumption | exact hs_same _ _ _ | exact (hs_ne _ _ (by first | assumption | decide | omega)).trans (by first | assumption | exact hs_same _ _ _ | exact (hs_ne _ _ (by first | assumption | decide | omega)).trans (by first | assumption | exact hs_same _ _ _ | exact (hs_ne _ _ (by first | assumption | decide | omega)).trans (by first | assumption | exact hs_same _ _ _ | exact (hs_ne _ _ (by first | assumption | decide | omega)).trans (by first | assumption | exact hs_same _ _ _))))) rfl (by omega) (by decide) (by simp) (hp2 j hj8) rfl ?_
      refine gs_cv 50 a_X4_build_47 k_4_232 q_X1_clear (e_lclear hl) rfl rfl rfl (by simp [Value.category]) (by first | assumption | exact hs_same _ _ _ | exact (hs_ne _ _ (by first | assumption | decide | omega)).trans (by first | assumption | exact hs_same _ _ _ | exact (hs_ne _ _ (by first | assumption | decide | omega)).trans (by first | assumption | exact hs_same _ _ _ | exact (hs_ne _ _ (by first | assumption | decide | omega)).trans (by first | assumption | exact hs_same _ _ _ | exact (hs_ne _ _ (by first | assumption | decide | omega)).trans (by first | assumption | exact hs_same _ _ _))))) rfl (fun v h2 hp => ?_)
      obtain ⟨e1, hF, hl2⟩ := hp
      simp only at e1
      subst e1
      have w2 := w.log (x := .inl ([], [])) hj8 (FS.of hF (by intro k hk; simp at hk; omega)) hl2
      have e2 : va_up (fun p => if p < j then (Sum.inl ([], []) : (List En × List Nat) ⊕ (List En × Nat)) else .inl (lg p, tn p)) j (.inl ([], [])) = fun p => if p < j + 1 then .inl ([], []) else .inl (lg p, tn p) := by
        funext k
        by_cases z : k = j
        · subst z; rw [va_up_self, if_pos (by omega)]
        · rw [va_up_ne _ _ z]
          by_cases y : k < j
          · rw [if_pos y, if_pos (by omega)]
          · rw [if_neg y, if_neg (by omega)]
      rw [e2] at w2
      first | refine gs_inc _ 53 a_X4_build_50 rfl (Nat.le_of_ble_eq_true rfl) rfl ?_ | refine gs_n 53 a_X4_build_50 rfl ?_
      refine gs_n 33 a_X4_build_53 rfl ?_
      refine gs_w [(4, .int (nI (j + 1))), (0, .ref 0)] (by simp [ix_nd]) (by intro x hx; simp only [List.mem_cons, List.not_mem_nil, or_false] at hx; rcases hx with rfl | rfl <;> rfl) ?_
      refine gs_post (ih (j + 1) h2 (by omega) w2) ?_
      rintro u ⟨q1, q2, q3⟩
      exact ⟨q1, (FS.of hF (by intro k hk; simp at hk; unfold cC; omega)).trans q2, q3⟩
theorem c_build {lg : Nat → List En} {tn : Nat → List Nat} {a b c e f g x : Int32} (p cp t : Int32) (w : CV h (oE a b c e f g x) (fun p => .inl (lg p, tn p)) bb un pr mk tp an) : ev (d + 4) n_X4_build [.ref 0, .int p, .int cp, .int t] h (fun u => u.1 = none ∧ FS cC h u.2 ∧ CV u.2 (oE p cp t (nI 0) (nI 0) (nI 0) (nI 0)) (fun p => if p < 8 then .inl ([], []) else .inl (lg p, tn p)) [] [] (fun k => if k < 32 then fgt (pr k) else pr k) (fun _ => -1) tp []) := by
  have w1 := w.1
  refine ev_of q_X4_build (Nat.le_of_ble_eq_true rfl) ?_
  refine gs_n 1 a_X4_build_0 rfl ?_
  refine gs_n 2 a_X4_build_1 rfl ?_
  refine gs_put 5 _ a_X4_build_2 f_4_146 (by first | assumption | exact hs_same _ _ _ | exact (hs_ne _ _ (by first | assumption | decide | omega)).trans (by first | assumption | exact hs_same _ _ _ | exact (hs_ne _ _ (by first | assumption | decide | omega)).trans (by first | assumption | exact hs_same _ _ _ | exact (hs_ne _ _ (by first | assumption | decide | omega)).trans (by first | assumption | exact hs_same _ _ _ | exact (hs_ne _ _ (by first | assumption | decide | omega)).trans (by first | assumption | exact hs_same _ _ _))))) (Nat.le_of_ble_eq_true rfl) rfl (fun z => absurd z (by decide)) rfl rfl ?_
  refine gs_n 6 a_X4_build_5 rfl ?_
  refine gs_n 7 a_X4_build_6 rfl ?_
  refine gs_put 10 _ a_X4_build_7 f_4_220 (by first | assumption | exact hs_same _ _ _ | exact (hs_ne _ _ (by first | assumption | decide | omega)).trans (by first | assumption | exact hs_same _ _ _ | exact (hs_ne _ _ (by first | assumption | decide | omega)).trans (by first | assumption | exact hs_same _ _ _ | exact (hs_ne _ _ (by first | assumption | decide | omega)).trans (by first | assumption | exact hs_same _ _ _ | exact (hs_ne _ _ (by first | assumption | decide | omega)).trans (by first | assumption | exact hs_same _ _ _))))) (Nat.le_of_ble_eq_true rfl) rfl (fun z => absurd z (by decide)) rfl rfl ?_
  refine gs_n 11 a_X4_build_10 rfl ?_
  refine gs_n 12 a_X4_build_11 rfl ?_
  refine gs_put 15 _ a_X4_build_12 f_4_223 (by first | assumption | exact hs_same _ _ _ | exact (hs_ne _ _ (by first | assumption | decide | omega)).trans (by first | assumption | exact hs_same _ _ _ | exact (hs_ne _ _ (by first | assumption | decide | omega)).trans (by first | assumption | exact hs_same _ _ _ | exact (hs_ne _ _ (by first | assumption | decide | omega)).trans (by first | assumption | exact hs_same _ _ _ | exact (hs_ne _ _ (by first | assumption | decide | omega)).trans (by first | assumption | exact hs_same _ _ _))))) (Nat.le_of_ble_eq_true rfl) rfl (fun z => absurd z (by decide)) rfl rfl ?_
  refine gs_n 16 a_X4_build_15 rfl ?_
  refine gs_k (nI 0) 17 a_X4_build_16 (by decide +kernel) rfl ?_
  refine gs_put 20 _ a_X4_build_17 f_4_98 (by first | assumption | exact hs_same _ _ _ | exact (hs_ne _ _ (by first | assumption | decide | omega)).trans (by first | assumption | exact hs_same _ _ _ | exact (hs_ne _ _ (by first | assumption | decide | omega)).trans (by first | assumption | exact hs_same _ _ _ | exact (hs_ne _ _ (by first | assumption | decide | omega)).trans (by first | assumption | exact hs_same _ _ _ | exact (hs_ne _ _ (by first | assumption | decide | omega)).trans (by first | assumption | exact hs_same _ _ _))))) (Nat.le_of_ble_eq_true rfl) rfl (fun z => absurd z (by decide)) rfl rfl ?_
  refine gs_n 21 a_X4_build_20 rfl ?_
  refine gs_k (nI 0) 22 a_X4_build_21 (by decide +kernel) rfl ?_
  refine gs_put 25 _ a_X4_build_22 f_4_63 (by first | assumption | exact hs_same _ _ _ | exact (hs_ne _ _ (by first | assumption | decide | omega)).trans (by first | assumption | exact hs_same _ _ _ | exact (hs_ne _ _ (by first | assumption | decide | omega)).trans (by first | assumption | exact hs_same _ _ _ | exact (hs_ne _ _ (by first | assumption | decide | omega)).trans (by first | assumption | exact hs_same _ _ _ | exact (hs_ne _ _ (by first | assumption | decide | omega)).trans (by first | assumption | exact hs_same _ _ _))))) (Nat.le_of_ble_eq_true rfl) rfl (fun z => absurd z (by decide)) rfl rfl ?_
  refine gs_n 26 a_X4_build_25 rfl ?_
  refine gs_k (nI 0) 27 a_X4_build_26 (by decide +kernel) rfl ?_
  refine gs_put 30 _ a_X4_build_27 f_4_168 (by first | assumption | exact hs_same _ _ _ | exact (hs_ne _ _ (by first | assumption | decide | omega)).trans (by first | assumption | exact hs_same _ _ _ | exact (hs_ne _ _ (by first | assumption | decide | omega)).trans (by first | assumption | exact hs_same _ _ _ | exact (hs_ne _ _ (by first | assumption | decide | omega)).trans (by first | assumption | exact hs_same _ _ _ | exact (hs_ne _ _ (by first | assumption | decide | omega)).trans (by first | assumption | exact hs_same _ _ _))))) (Nat.le_of_ble_eq_true rfl) rfl (fun z => absurd z (by decide)) rfl rfl ?_
  refine gs_k (nI 0) 31 a_X4_build_30 (by decide +kernel) rfl ?_
  refine gs_n 33 a_X4_build_31 rfl ?_
  refine gs_w [(4, .int (nI 0)), (0, .ref 0)] (by simp [ix_nd]) (by intro x hx; simp only [List.mem_cons, List.not_mem_nil, or_false] at hx; rcases hx with rfl | rfl <;> rfl) ?_
  generalize hh : ix_set _ _ _ = h2
  have hF2 : Fr [0] h h2 := by
    rw [← hh]
    exact (((((Fr.set _ (by simp)).trans (Fr.set _ (by simp))).trans (Fr.set _ (by simp))).trans (Fr.set _ (by simp))).trans (Fr.set _ (by simp))).trans (Fr.set _ (by simp))
  have w2 := w.obj (o' := oE p cp t (nI 0) (nI 0) (nI 0) x) hF2 (by rw [← hh]; exact hs_same _ _ _)
  refine gs_post (l_build (l1 := .int 0) (l2 := .int 0) (l3 := .int 0) 8 0 h2 (by omega) (by simpa using w2)) ?_
  rintro u ⟨q1, q2, q3⟩
  exact ⟨q1, (FS.of hF2 (by intro k hk; simp at hk; subst hk; unfold cC; omega)).trans q2, q3⟩
end CVs
