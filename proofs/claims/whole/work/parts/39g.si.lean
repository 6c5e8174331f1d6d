/-! WHAT HOLDS BETWEEN CALLS STAYS -/
section SJ
variable {P cap tmo clk cut sy torn : Nat} {cl : Bool} {X Y : List En} {tE : En} {tp an : List Nat} {n nx : Nat} {ep tx bg ba lc de mq en : Nat → Nat} {ad : Nat → Int32} {la : List (Nat × Nat × Nat)}
def SJ (σ : SS) : Prop := SI σ ∧ bv σ.1 σ.2.2.2.2.2.2.1
theorem SJ_Y (h : SJ (P, cap, tmo, clk, false, cut, X, sy, torn, tE, tp, an)) (hl : X.length ≤ Y.length) (hv : pv P cap Y) (hn : noDec P Y) (hq : qv P Y) (hb : bv P Y) : SJ (P, cap, tmo, clk, false, cut, Y, sy, torn, tE, tp, an) := by
  obtain ⟨⟨s1, s2, s3, s4, s5, s6, s7, s8, s9, s10, s11, s12, s13, s14, s15, s16, s17, s18⟩, -⟩ := h
  exact ⟨⟨s1, s2, s3, s4, s5, s6, s7, s8, by omega, hv, fun _ => ⟨(s11 rfl).1, hn⟩, s12, fun q => absurd q (by simp), s14, s15, s16, s17, hq⟩, hb⟩
theorem finR_len {E t K k : Nat} {m : Int32} : ∀ (j p : Nat) (Y : List En), Y.length ≤ (finR E t K k m p j Y).length := by
  intro j
  induction j with
  | zero => intro p Y; exact Nat.le_refl _
  | succ j ih =>
    intro p Y
    simp only [finR]
    refine Nat.le_trans ?_ (ih (p + 1) _)
    split
    · rw [List.length_append]; omega
    · exact Nat.le_refl _
theorem finX_len (k : Nat) : X.length ≤ (finX P X k).length := by
  unfold finX
  rw [List.length_append]
  have := finR_len (E := (told P X).2.1 k - 1) (t := (told P X).2.2.1 k - 1) (K := 4 - (told P X).2.2.2.2.2.2.2.1 k) (k := k) (m := (told P X).2.2.2.2.2.1 k) P 0 X
  omega
theorem decX_len (k c : Nat) : X.length ≤ (decX P X k c).length := by unfold decX; rw [List.length_append]; omega
theorem regX_len (k : Nat) : X.length ≤ (regX P X k).length := by unfold regX; rw [List.length_append]; omega
theorem end_SJ {k c : Nat} (hc : c ≤ 1) (hk : k < 32) (ht : (told P X).2.2.1 k ≠ 0) (h : SJ (P, cap, tmo, clk, false, cut, X, sy, torn, tE, tp, an)) : SJ (P, cap, tmo, clk, false, cut, finX P (decX P X k c) k, sy, torn, tE, tp, an) := by
  have h0 := h
  obtain ⟨⟨s1, s2, s3, s4, s5, s6, s7, s8, s9, hv, s11, s12, s13, s14, s15, s16, s17, s18⟩, hb⟩ := h
  have hn := (s11 rfl).2
  have h1 := fin_pv hc s2 hk hv hn ht
  have hd := dec_pv hc s2 hk hv ht (hn k hk)
  exact SJ_Y h0 (Nat.le_trans (decX_len k c) (finX_len k)) h1.1 h1.2.1 (qv_finX (de_le hd.1 hk) (qv_decX s18)) (bv_finX (by rw [told_decX]; exact ht) (bv_decX ht hc hb))
theorem reg_SJ {k : Nat} (hk : k < 32) (ht : (told P X).2.2.1 k = 0) (hr : 16 * (told P X).1 + 16 + sm (res (told P X).2.2.1 (told P X).2.2.2.2.2.2.2.1) 32 ≤ 16000) (h : SJ (P, cap, tmo, clk, false, cut, X, sy, torn, tE, tp, an)) : SJ (P, cap, tmo, clk, false, cut, regX P X k, sy, torn, tE, tp, an) := by
  have h0 := h
  obtain ⟨⟨s1, s2, s3, s4, s5, s6, s7, s8, s9, hv, s11, s12, s13, s14, s15, s16, s17, s18⟩, hb⟩ := h
  have h1 := regX_pv s2 hk hv ht hr
  refine SJ_Y h0 (regX_len k) h1.1 ?_ (qv_regX s18) (bv_regX hb)
  intro i hi
  rw [h1.2.1]
  exact (s11 rfl).2 i hi
theorem J_register {x : Int32} (h : SJ (P, cap, tmo, clk, cl, cut, X, sy, torn, tE, tp, an)) : SJ (F_register (P, cap, tmo, clk, cl, cut, X, sy, torn, tE, tp, an) x).2 := by
  simp only [F_register]
  split
  · exact h
  · rename_i c1
    split
    · exact h
    · rename_i c2
      have hcl : cl = false := by simpa using c1
      subst hcl
      obtain ⟨hk, -⟩ := isK_kn (x := x) (by simpa using c2)
      obtain ⟨⟨s1, s2, s3, s4, s5, s6, s7, s8, s9, hv, s11, -⟩, hb⟩ := id h
      have hn := (s11 rfl).2
      split
      · rename_i c3
        have h1 := fin_pv (c := 0) (by omega) s2 hk hv hn c3
        exact reg_SJ hk h1.2.2.1 h1.2.2.2.2 (end_SJ (by omega) hk c3 h)
      · rename_i c3
        split
        · exact h
        · rename_i c4
          exact reg_SJ hk (by simpa using c3) (by have := room_sm hn (more := 0) (by simpa using c4); omega) h
theorem J_begin {x e : Int32} (h : SJ (P, cap, tmo, clk, cl, cut, X, sy, torn, tE, tp, an)) : SJ (F_begin (P, cap, tmo, clk, cl, cut, X, sy, torn, tE, tp, an) x e).2 := by
  simp only [F_begin]
  split
  · exact h
  · rename_i c1
    split
    · exact h
    · rename_i c2
      split
      · exact h
      · rename_i c3
        obtain ⟨r1, r2, r3, r4, r5⟩ := refF_0 (by simpa using c1 : refF cl (tS cl P X) x e true = nI 0)
        subst r1
        rw [tS_f] at r4
        obtain ⟨hk, -⟩ := isK_kn r3
        have h0 := h
        obtain ⟨⟨s1, s2, s3, s4, s5, s6, s7, s8, s9, hv, s11, s12, s13, s14, s15, s16, s17, s18⟩, hb⟩ := h
        have hn := (s11 rfl).2
        have hrm := room_sm hn (more := 1) (by simpa using c3)
        have c2 : (told P X).2.2.1 (kn x) = 0 := by simpa using c2
        obtain ⟨n, ep, tx, bg, ba, ad, lc, de, mq, nx, la, en, hT⟩ := told_ex P X
        unfold noDec at hn
        rw [hT] at r4 c2 hrm hn ⊢
        simp only at r4 c2 hrm hn ⊢
        have h1 := pv_begin s2 hv hT hk r4 c2 s7 (by omega)
        refine SJ_Y h0 (by rw [List.length_append]; omega) h1.1 ?_ (qv_snoc s18 (fun z => absurd rfl z)) (bv_snoc hb ?_)
        · unfold noDec; rw [h1.2]; exact hn
        · rw [hT]
          exact fun _ => ⟨fun _ => ⟨c2, rfl⟩, fun q => absurd q (Nat.ne_of_beq_eq_false rfl), fun q => absurd q (Nat.ne_of_beq_eq_false rfl), fun q => absurd q (Nat.ne_of_beq_eq_false rfl)⟩
theorem J_end {x e : Int32} {c : Bool} (h : SJ (P, cap, tmo, clk, cl, cut, X, sy, torn, tE, tp, an)) : SJ (F_end (P, cap, tmo, clk, cl, cut, X, sy, torn, tE, tp, an) x e c).2 := by
  simp only [F_end]
  split
  · exact h
  · rename_i c1
    split
    · exact h
    · rename_i c2
      obtain ⟨r1, r2, r3, r4, r5⟩ := refF_0 (by simpa using c1 : refF cl (tS cl P X) x e true = nI 0)
      subst r1
      obtain ⟨hk, -⟩ := isK_kn r3
      exact end_SJ (by split <;> omega) hk c2 h
theorem J_later {x e g p o : Int32} (h : SJ (P, cap, tmo, clk, cl, cut, X, sy, torn, tE, tp, an)) : SJ (F_later (P, cap, tmo, clk, cl, cut, X, sy, torn, tE, tp, an) x e g p o).2 := by
  simp only [F_later]
  split
  · exact h
  · rename_i c1
    split
    · exact h
    · rename_i c2
      split
      · exact h
      · rename_i c3
        obtain ⟨r1, r2, r3, r4, r5⟩ := refF_0 (by simpa using c1 : refF cl (tS cl P X) x e (isPlF P g p && decide (0 ≤ o.toInt)) = nI 0)
        subst r1
        rw [Bool.and_eq_true] at r2
        obtain ⟨g1, g2, p1, p2⟩ := isPlF_kn r2.1
        obtain ⟨hk, -⟩ := isK_kn r3
        have ho : kn o < 2 ^ 31 := by have := Int32.toInt_lt o; unfold kn; omega
        have h0 := h
        obtain ⟨⟨s1, s2, s3, s4, s5, s6, s7, s8, s9, hv, s11, s12, s13, s14, s15, s16, s17, s18⟩, hb⟩ := h
        have hn := (s11 rfl).2
        have hrm := room_sm hn (more := 0) (by simpa using c3)
        obtain ⟨n, ep, tx, bg, ba, ad, lc, de, mq, nx, la, en, hT⟩ := told_ex P X
        unfold noDec at hn
        rw [hT] at c2 hrm hn ⊢
        simp only at c2 hrm hn ⊢
        have h1 := pv_later (a := 8 * kn g + kn p) s2 hv hT hk c2 (by omega) ho (by omega)
        refine SJ_Y h0 (by rw [List.length_append]; omega) h1.1 ?_ (qv_snoc s18 (fun z => absurd rfl z)) (bv_snoc hb ?_)
        · unfold noDec; rw [h1.2]; exact hn
        · rw [hT]
          exact fun _ => ⟨fun q => absurd q (Nat.ne_of_beq_eq_false rfl), fun _ => c2, fun q => absurd q (Nat.ne_of_beq_eq_false rfl), fun q => absurd q (Nat.ne_of_beq_eq_false rfl)⟩
theorem J_mark {g p o : Int32} (h : SJ (P, cap, tmo, clk, cl, cut, X, sy, torn, tE, tp, an)) : SJ (F_mark (P, cap, tmo, clk, cl, cut, X, sy, torn, tE, tp, an) g p o).2 := by
  simp only [F_mark]
  split
  · exact h
  · rename_i c1
    split
    · exact h
    · rename_i c2
      split
      · exact h
      · rename_i c3
        have hcl : cl = false := by simpa using c1
        subst hcl
        have c2 : (isPlF P g p && decide (0 ≤ o.toInt)) = true := by
          cases hq : (isPlF P g p && decide (0 ≤ o.toInt)) with
          | true => rfl
          | false => exact absurd hq c2
        rw [Bool.and_eq_true] at c2
        obtain ⟨g1, g2, p1, p2⟩ := isPlF_kn c2.1
        have ho : kn o < 2 ^ 31 := by have := Int32.toInt_lt o; unfold kn; omega
        have h0 := h
        obtain ⟨⟨s1, s2, s3, s4, s5, s6, s7, s8, s9, hv, s11, s12, s13, s14, s15, s16, s17, s18⟩, hb⟩ := h
        have hn := (s11 rfl).2
        have hrm := room_sm hn (more := 0) (by simpa using c3)
        obtain ⟨n, ep, tx, bg, ba, ad, lc, de, mq, nx, la, en, hT⟩ := told_ex P X
        unfold noDec at hn
        rw [hT] at hrm hn
        simp only at hrm hn
        have h1 := pv_mark (a := 8 * kn g + kn p) s2 hv hT (by omega) ho (by omega)
        refine SJ_Y h0 (by rw [List.length_append]; omega) h1.1 ?_ (qv_snoc s18 (fun z => absurd rfl z)) (bv_snoc hb (bvE_k _ (Nat.ne_of_beq_eq_false rfl) (Nat.ne_of_beq_eq_false rfl) (Nat.ne_of_beq_eq_false rfl) (Nat.ne_of_beq_eq_false rfl)))
        unfold noDec; rw [h1.2]; exact hn
theorem fte_some {due : Nat → Bool} {tx : Nat → Nat} : ∀ j f, fte due tx j = some f → f < j ∧ due f = true ∧ tx f ≠ 0 := by
  intro j
  induction j with
  | zero => intro f hf; cases hf
  | succ j ih =>
    intro f hf
    simp only [fte] at hf
    by_cases y : (due j && !decide (tx j = 0)) = true
    · rw [if_pos y] at hf
      simp at y
      cases h3 : fte due tx j with
      | none =>
        rw [h3] at hf
        cases hf
        exact ⟨by omega, y.1, y.2⟩
      | some f' =>
        rw [h3] at hf
        simp only at hf
        obtain ⟨h4, h5, h6⟩ := ih f' h3
        split at hf
        · cases hf; exact ⟨by omega, y.1, y.2⟩
        · cases hf; exact ⟨by omega, h5, h6⟩
    · rw [if_neg y] at hf
      obtain ⟨h4, h5, h6⟩ := ih f hf
      exact ⟨by omega, h5, h6⟩
theorem ovr_keep {txf : List En → Nat → Nat} {due : List En → Nat → Bool} {step : List En → Nat → List En} (Inv : List En → Prop) (hS : ∀ s k, Inv s → k < 32 → txf s k ≠ 0 → due s k = true → Inv (step s k)) : ∀ (r : Nat) (s : List En), Inv s → Inv (ovr txf due step r s).2 := by
  intro r
  induction r with
  | zero => intro s hi; exact hi
  | succ r ih =>
    intro s hi
    simp only [ovr]
    cases hf : fte (due s) (txf s) 32 with
    | none => exact hi
    | some k =>
      obtain ⟨h1, h2, h3⟩ := fte_some 32 k hf
      exact ih _ (hS s k hi h1 h3 h2)
theorem J_tick {x : Int32} (h : SJ (P, cap, tmo, clk, cl, cut, X, sy, torn, tE, tp, an)) : SJ (F_tick (P, cap, tmo, clk, cl, cut, X, sy, torn, tE, tp, an) x).2 := by
  simp only [F_tick]
  split
  · exact h
  · rename_i c1
    have h0 : SJ (P, cap, tmo, clk + kn x, cl, cut, X, sy, torn, tE, tp, an) := by
      obtain ⟨⟨s1, s2, s3, s4, s5, s6, s7, s8, s9, s10⟩, hb⟩ := h
      exact ⟨⟨s1, s2, s3, s4, s5, s6, by omega, s8, s9, s10⟩, hb⟩
    split
    · exact h0
    · rename_i c2
      have hcl : cl = false := by simpa using c2
      subst hcl
      have h9 := ovr_keep (txf := txF P) (due := dueT P tmo (clk + kn x)) (step := stepT P) (fun Y => SJ (P, cap, tmo, clk + kn x, false, cut, Y, sy, torn, tE, tp, an)) (by
        intro s k hs hk ht _
        unfold txF at ht
        rw [if_pos hk] at ht
        obtain ⟨⟨s1, s2, s3, s4, s5, s6, s7, s8, s9, hv, s11, -⟩, hb⟩ := id hs
        have h1 := fin_pv (c := 0) (by omega) s2 hk hv (s11 rfl).2 ht
        exact reg_SJ hk h1.2.2.1 h1.2.2.2.2 (end_SJ (by omega) hk ht hs)) 32 X h0
      exact h9
theorem J_sync (h : SJ (P, cap, tmo, clk, cl, cut, X, sy, torn, tE, tp, an)) : SJ (F_sync (P, cap, tmo, clk, cl, cut, X, sy, torn, tE, tp, an)).2 := by
  simp only [F_sync]
  split
  · exact h
  · obtain ⟨⟨s1, s2, s3, s4, s5, s6, s7, s8, s9, hv, s11, s12, s13, s14, s15, s16, s17, s18⟩, hb⟩ := h
    exact ⟨⟨s1, s2, s3, s4, s5, s6, s7, s8, Nat.le_refl _, hv, s11, s12, fun _ => rfl, s14, s15, s16, s17, s18⟩, hb⟩
theorem pv_okE (hv : pv P cap X) : ∀ e ∈ X, okE P e := by
  obtain ⟨n, ep, tx, bg, ba, ad, lc, de, mq, nx, la, en, hT⟩ := told_ex P X
  have hg : GT P cap X (n, ep, tx, bg, ba, ad, lc, de, mq, nx, la, en) := hT ▸ pv_all hv
  exact hg.1.2.2.2.1
theorem J_crash {x : Int32} (h : SJ (P, cap, tmo, clk, cl, cut, X, sy, torn, tE, tp, an)) : SJ (F_crash (P, cap, tmo, clk, cl, cut, X, sy, torn, tE, tp, an) x).2 := by
  simp only [F_crash]
  split
  · exact h
  · split
    · exact h
    · rename_i c1 c2
      obtain ⟨⟨s1, s2, s3, s4, s5, s6, s7, s8, s9, hv, s11, s12, s13, s14, s15, s16, s17, s18⟩, hb⟩ := h
      obtain ⟨p1, p2, p3, p4⟩ := crp_ok (P := P) (X.drop sy) (kn x) (by omega)
      rw [List.length_drop] at p1 p2 p3
      have hlt : (X.take (sy + (crp P (X.drop sy) (kn x)).1)).length = sy + (crp P (X.drop sy) (kn x)).1 := by rw [List.length_take]; omega
      refine ⟨⟨s1, s2, s3, s4, s5, s6, s7, s8, by rw [hlt]; omega, pv_take hv _, fun q => absurd q (by simp), ?_, fun _ => hlt.symm, s14, s15, s16, s17, qv_take s18 _⟩, bv_take hb _⟩
      intro ht
      have hm : (crp P (X.drop sy) (kn x)).1 < X.length - sy := by omega
      have := p3 hm
      rw [drop_getD] at this
      exact ⟨pv_okE hv _ (getD_mem (by omega)), this⟩
theorem J_open (h : SJ (P, cap, tmo, clk, cl, cut, X, sy, torn, tE, tp, an)) : SJ (F_open (P, cap, tmo, clk, cl, cut, X, sy, torn, tE, tp, an)).2 := by
  simp only [F_open]
  split
  · exact h
  · obtain ⟨⟨s1, s2, s3, s4, s5, s6, s7, s8, s9, hv, s11, s12, s13, s14, s15, s16, s17, s18⟩, hb⟩ := h
    have h1 := ovrD_ok (cap := cap) s2 32 X hv (cnt_le _ _)
    have h2 := ovr_keep (txf := txF P) (due := dueD P) (step := finX P) (fun Y => pv P cap Y ∧ X.length ≤ Y.length ∧ qv P Y ∧ bv P Y) (by
      rintro s k ⟨q1, q2, q3, q4⟩ hk ht hd
      unfold txF at ht
      rw [if_pos hk] at ht
      unfold dueD at hd
      have hde : (told P s).2.2.2.2.2.2.2.1 k ≠ 0 := by simpa using hd
      refine ⟨?_, Nat.le_trans q2 (finX_len k), qv_finX (de_le q1 hk) q3, bv_finX ht q4⟩
      obtain ⟨n, ep, tx, bg, ba, ad, lc, de, mq, nx, la, en, hT⟩ := told_ex P s
      rw [hT] at ht hde
      exact (fin_ok s2 q1 hT hk ht hde).1) 32 X ⟨hv, Nat.le_refl _, s18, hb⟩
    have hcut : torn ≤ 54 := by
      by_cases q : 0 < torn
      · have := s12 q
        have := sz_le this.1.1
        omega
      · omega
    exact ⟨⟨s1, s2, s3, s4, s5, s6, s7, hcut, Nat.le_trans s9 h2.2.1, h1.1, fun _ => ⟨rfl, h1.2.1⟩, fun q => absurd q (by omega), fun q => absurd q (by simp), s14, s15, s16, s17, h2.2.2.1⟩, h2.2.2.2⟩
theorem J_fetch {p fr : Int32} {c : Bool} (h : SJ (P, cap, tmo, clk, cl, cut, X, sy, torn, tE, tp, an)) : SJ (F_fetch (P, cap, tmo, clk, cl, cut, X, sy, torn, tE, tp, an) p fr c).2 := by
  have key : ∀ l : List Nat, l.length ≤ 40 → (∀ x ∈ l, x < 256) → SJ (P, cap, tmo, clk, cl, cut, X, sy, torn, tE, tp, l) := by
    intro l h1 h2
    obtain ⟨⟨s1, s2, s3, s4, s5, s6, s7, s8, s9, hv, s11, s12, s13, s14, s15, s16, s17, s18⟩, hb⟩ := h
    exact ⟨⟨s1, s2, s3, s4, s5, s6, s7, s8, s9, hv, s11, s12, s13, s14, s15, h1, h2, s18⟩, hb⟩
  simp only [F_fetch]
  split
  · exact key [] (by simp) (fun x hx => absurd hx (by simp))
  · rename_i c1
    have hp : isPn P p = true := by
      cases hq : isPn P p with
      | true => rfl
      | false => rw [hq] at c1; simp at c1
    obtain ⟨hp1, -⟩ := isPn_kn hp
    cases ho : offF (fl (kn p) X) (kn fr) c with
    | none => exact key [] (by simp) (fun x hx => absurd hx (by simp))
    | some o =>
      have h1 := offF_lt ho
      have h2 := fl_mem (getD_mem h1)
      obtain ⟨⟨s1, s2, s3, s4, s5, s6, s7, s8, s9, hv, -⟩, hb⟩ := h
      have h3 := (pv_okE hv _ h2.1).1.2.2.2.2.2.2.2.1 (fun q => by have h4 := h2.2.symm.trans q; omega)
      exact key (eP ((fl (kn p) X).getD o en0)) (by have h4 := h3.1; have h5 := h3.2.1; omega) h3.2.2
theorem J_feed {x : Int32} {a b : Int64} (h : SJ (P, cap, tmo, clk, cl, cut, X, sy, torn, tE, tp, an)) : SJ (F_feed (P, cap, tmo, clk, cl, cut, X, sy, torn, tE, tp, an) x a b).2 := by
  simp only [F_feed]
  split
  · rename_i c1
    obtain ⟨⟨s1, s2, s3, s4, s5, s6, s7, s8, s9, hv, s11, s12, s13, s14, s15, s16, s17, s18⟩, hb⟩ := h
    refine ⟨⟨s1, s2, s3, s4, s5, s6, s7, s8, s9, hv, s11, s12, s13, ?_, ?_, s16, s17, s18⟩, hb⟩
    · rw [List.length_append, List.length_map, List.length_range]; omega
    · intro y hy
      rcases List.mem_append.mp hy with z | z
      · exact s15 y z
      · obtain ⟨i, -, rfl⟩ := List.mem_map.mp z
        unfold fby
        exact Nat.mod_lt _ (by decide)
  · exact h
theorem J_format {p c t : Int32} (h : SJ (P, cap, tmo, clk, cl, cut, X, sy, torn, tE, tp, an)) : SJ (F_format (P, cap, tmo, clk, cl, cut, X, sy, torn, tE, tp, an) p c t).2 := by
  simp only [F_format]
  split
  · rename_i c1
    obtain ⟨⟨s1, s2, s3, s4, s5, s6, s7, s8, s9, hv, s11, s12, s13, s14, s15, s16, s17, s18⟩, hb⟩ := h
    have h8 : kn p ≤ 8 := by unfold kn; omega
    refine ⟨⟨by unfold kn; omega, h8, by unfold kn; omega, by unfold kn; omega, by unfold kn; omega, by unfold kn; omega, by omega, by omega, Nat.le_refl _, pv_nil _ h8, fun _ => ⟨rfl, fun k _ => rfl⟩, fun q => absurd q (by omega), fun q => absurd q (by simp), s14, s15, by simp, fun x hx => absurd hx (by simp), qv_nil _⟩, bv_nil _⟩
  · exact h
theorem SJ_first : SJ (4, 2000, 100, 0, false, 0, [], 0, 0, tE, [], []) := by
  refine ⟨⟨by omega, by omega, by omega, by omega, by omega, by omega, by omega, by omega, Nat.le_refl _, pv_nil _ (by omega), fun _ => ⟨rfl, fun k _ => rfl⟩, fun q => absurd q (by omega), fun q => absurd q (by simp), by simp, fun x hx => absurd hx (by simp), by simp, fun x hx => absurd hx (by simp), qv_nil _⟩, bv_nil _⟩
theorem J_send {x e p num : Int32} {part : Bool} (h : SJ (P, cap, tmo, clk, cl, cut, X, sy, torn, tE, tp, an)) : SJ (F_send (P, cap, tmo, clk, cl, cut, X, sy, torn, tE, tp, an) x e p num part).2 := by
  have key : SJ (P, cap, tmo, clk, cl, cut, X, sy, torn, tE, [], an) := by
    obtain ⟨⟨s1, s2, s3, s4, s5, s6, s7, s8, s9, hv, s11, s12, s13, s14, s15, s16, s17, s18⟩, hb⟩ := h
    exact ⟨⟨s1, s2, s3, s4, s5, s6, s7, s8, s9, hv, s11, s12, s13, by simp, fun x hx => absurd hx (by simp), s16, s17, s18⟩, hb⟩
  simp only [F_send]
  split
  · exact key
  · rename_i c1
    split
    · exact key
    · rename_i c2
      obtain ⟨r1, r2, r3, r4, r5⟩ := refF_0 (by simpa using c1 : refF cl (tS cl P X) x e (isPn P p) = nI 0)
      subst r1
      rw [tS_f] at r4
      obtain ⟨hk, -⟩ := isK_kn r3
      obtain ⟨hp, -⟩ := isPn_kn r2
      have c2 : (!decide ((told P X).2.2.1 (kn x) = 0)) = part := Classical.byContradiction c2
      obtain ⟨⟨s1, s2, s3, s4, s5, s6, s7, s8, s9, hv, s11, s12, s13, s14, s15, s16, s17, s18⟩, hb⟩ := h
      generalize kn x = k at *
      generalize kn p = pp at *
      simp only [sndR]
      cases hrec : recI (fl pp X) k ((told P X).2.1 k - 1) num (fl pp X).length 5 with
      | some o => exact key
      | none =>
        simp only
        split
        · exact key
        · rename_i c3
          by_cases c4 : (decide (bytesP pp X + 14 + tp.length + 14 * (cntA (told P X) pp + (if (part && !hasB ((told P X).2.2.2.2.2.1 k) pp) = true then 1 else 0)) ≤ cap) && (!(part && !hasB ((told P X).2.2.2.2.2.1 k) pp) || bkF (told P X) 0)) = false
          · rw [if_pos c4]; exact key
          · rw [if_neg c4]
            have c3 : num = nI (nxt (fl pp X) k ((told P X).2.1 k - 1)) := Classical.byContradiction c3
            have hnd := (s11 rfl).2
            have hnx := nxt_le s18 hp (k := k) (E := (told P X).2.1 k - 1)
            obtain ⟨n, ep, tx, bg, ba, ad, lc, de, mq, nx, la, en, hT⟩ := told_ex P X
            have hg0 : GT P cap X (n, ep, tx, bg, ba, ad, lc, de, mq, nx, la, en) := hT ▸ pv_all hv
            have hlb := len_bound s2 s4 hg0.1.2.2.2.1 (fun q hq => Nat.le_trans (Nat.le_add_right _ _) (hg0.2.2.2.2.2 q hq))
            have hn1 := hg0.1.1
            have hn2 := hg0.2.2.2.2.1
            have hkn : kn num = nxt (fl pp X) k ((told P X).2.1 k - 1) := by rw [c3]; unfold kn; rw [nI_toInt (by omega)]; omega
            unfold noDec at hnd
            have hSX : (if (part && !hasB ((told P X).2.2.2.2.2.1 k) pp) = true then X ++ [(P, 2, k, (told P X).2.1 k - 1, pp, 0, 0, [])] else X) = sX1 P X k pp part := rfl
            simp only [hSX]
            rw [hT] at c2 c4 hnd hkn hnx ⊢
            simp only at c2 c4 hnd hkn hnx ⊢
            have c4' : (decide (bytesP pp X + 14 + tp.length + 14 * (cntA (n, ep, tx, bg, ba, ad, lc, de, mq, nx, la, en) pp + (if (part && !hasB (ad k) pp) = true then 1 else 0)) ≤ cap) && (!(part && !hasB (ad k) pp) || bkF (n, ep, tx, bg, ba, ad, lc, de, mq, nx, la, en) 0)) = true := by
              cases hq : (decide (bytesP pp X + 14 + tp.length + 14 * (cntA (n, ep, tx, bg, ba, ad, lc, de, mq, nx, la, en) pp + (if (part && !hasB (ad k) pp) = true then 1 else 0)) ≤ cap) && (!(part && !hasB (ad k) pp) || bkF (n, ep, tx, bg, ba, ad, lc, de, mq, nx, la, en) 0)) with
              | true => rfl
              | false => exact absurd hq c4
            rw [Bool.and_eq_true] at c4'
            obtain ⟨n1, ad1, v1, t1, f1, b1, r1, l1, l2⟩ := snd_ok (tp := tp) s2 hv hT hnd hk hp (fun q => by rw [← c2] at q; simpa using q) (of_decide_eq_true c4'.1) (fun q => by have := c4'.2; rw [q] at this; simpa using this)
            have hbX1 : bytesP pp (sX1 P X k pp part) = bytesP pp X := by unfold bytesP; rw [f1]
            have hrec2 := pv_rec (k := k) (num := kn num) (o := if part then tx k else 0) (pl := tp) part s2 v1 t1 hk hp (by rw [hkn]; omega) s14 s15 rfl (fun q => ⟨by rw [← c2] at q; simpa using q, hnd k hk, b1 q⟩) (by rw [hbX1]; omega)
            have hq1 : qv P (sX1 P X k pp part) := by
              unfold sX1
              split
              · exact qv_snoc s18 (fun z => absurd rfl z)
              · exact s18
            have hb1 : bv P (sX1 P X k pp part) := by
              unfold sX1
              split
              · exact bv_snoc hb (bvE_k _ (Nat.ne_of_beq_eq_false rfl) (Nat.ne_of_beq_eq_false rfl) (Nat.ne_of_beq_eq_false rfl) (Nat.ne_of_beq_eq_false rfl))
              · exact hb
            refine SJ_Y key (by rw [List.length_append]; omega) hrec2.1 ?_ (qv_snoc hq1 (fun _ _ => ?_)) (bv_snoc hb1 (bvE_p _ ?_))
            · unfold noDec; rw [hrec2.2]; exact hnd
            · show kn num ≤ _
              omega
            · show pp ≠ P
              omega
end SJ
