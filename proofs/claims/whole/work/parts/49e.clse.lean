/-! OnceLedger: open -/
section CO
variable {d : Nat} {h h' : ix_H} {P cap tmo clk cut sy torn : Nat} {cl : Bool} {X : List En} {tE : En} {tp an : List Nat} {pr : Nat → PS} {mk : Nat → Int32} {n nx : Nat} {ep tx bg ba lc de mq en : Nat → Nat} {ad : Nat → Int32} {la : List (Nat × Nat × Nat)}
def toldB (l : List En) : TS := l.foldl tell T0
theorem told_B (P : Nat) (X : List En) : told P X = toldB (fl P X) := by
  have : ∀ (l : List En) (T : TS), l.foldl (fun T e => if eF e = P then tell T e else T) T = (l.filter (fun e => decide (eF e = P))).foldl tell T := by
    intro l
    induction l with
    | nil => intro T; rfl
    | cons a l ih =>
      intro T
      simp only [List.foldl_cons, List.filter_cons]
      by_cases z : eF a = P
      · rw [if_pos z, if_pos (by simpa using z), List.foldl_cons]
        exact ih _
      · rw [if_neg z, if_neg (by simpa using z)]
        exact ih _
  exact this X T0
theorem toldB_s {l : List En} {j : Nat} (hj : j < l.length) : toldB (l.take (j + 1)) = tell (toldB (l.take j)) (l.getD j en0) := by
  rw [take_snocE hj]
  unfold toldB
  rw [List.foldl_append]
  rfl
theorem fl_pre (P : Nat) : ∀ (X : List En) (j : Nat), j ≤ (fl P X).length → ∃ m, m ≤ X.length ∧ fl P (X.take m) = (fl P X).take j := by
  intro X
  induction X with
  | nil => intro j hj; exact ⟨0, Nat.le_refl _, by simp [fl]⟩
  | cons a l ih =>
    intro j hj
    by_cases z : eF a = P
    · have h1 : fl P (a :: l) = a :: fl P l := by unfold fl; rw [List.filter_cons, if_pos (by simpa using z)]
      cases j with
      | zero => exact ⟨0, Nat.zero_le _, by simp [fl]⟩
      | succ j =>
        rw [h1, List.length_cons] at hj
        obtain ⟨m, hm, he⟩ := ih j (by omega)
        refine ⟨m + 1, by rw [List.length_cons]; omega, ?_⟩
        rw [List.take_succ_cons, h1, List.take_succ_cons, ← he]
        unfold fl
        rw [List.filter_cons, if_pos (by simpa using z)]
    · have h1 : fl P (a :: l) = fl P l := by unfold fl; rw [List.filter_cons, if_neg (by simpa using z)]
      rw [h1] at hj
      obtain ⟨m, hm, he⟩ := ih j hj
      refine ⟨m + 1, by rw [List.length_cons]; omega, ?_⟩
      rw [List.take_succ_cons, h1, ← he]
      unfold fl
      rw [List.filter_cons, if_neg (by simpa using z)]
theorem tell_rel {bk : List En} {j : Nat} {e : En} {Z : List En} (hj : j < bk.length) (he : bk.getD j en0 = e) (hZ : fl P Z = bk.take j) (g : GT P cap Z (n, ep, tx, bg, ba, ad, lc, de, mq, nx, la, en)) (hall : ∀ x ∈ bk, okB x) (hpr : ∀ k, k < 32 → PR (pr k) (ep k) (tx k) (bg k) (ba k) (ad k) (lc k) (de k)) (hmk : ∀ i, i < 64 → mk i = m1 (mq i)) :
    (∀ k, k < 32 → PR (tellP bk j pr k) ((tell (n, ep, tx, bg, ba, ad, lc, de, mq, nx, la, en) e).2.1 k) ((tell (n, ep, tx, bg, ba, ad, lc, de, mq, nx, la, en) e).2.2.1 k) ((tell (n, ep, tx, bg, ba, ad, lc, de, mq, nx, la, en) e).2.2.2.1 k) ((tell (n, ep, tx, bg, ba, ad, lc, de, mq, nx, la, en) e).2.2.2.2.1 k) ((tell (n, ep, tx, bg, ba, ad, lc, de, mq, nx, la, en) e).2.2.2.2.2.1 k) ((tell (n, ep, tx, bg, ba, ad, lc, de, mq, nx, la, en) e).2.2.2.2.2.2.1 k) ((tell (n, ep, tx, bg, ba, ad, lc, de, mq, nx, la, en) e).2.2.2.2.2.2.2.1 k)) ∧ (∀ i, i < 64 → tellM bk j pr mk i = m1 ((tell (n, ep, tx, bg, ba, ad, lc, de, mq, nx, la, en) e).2.2.2.2.2.2.2.2.1 i)) ∧ tellN bk j nx = (tell (n, ep, tx, bg, ba, ad, lc, de, mq, nx, la, en) e).2.2.2.2.2.2.2.2.2.1 := by
  obtain ⟨⟨a1, a2, a3, a4, a5, a6, a7, a8⟩, l, ⟨e1, e2, e3⟩, f, ⟨r1, r2⟩⟩ := g
  have hokB : okB e := by rw [← he]; exact hall _ (getD_mem hj)
  have hn : n = j := by rw [a1, hZ, List.length_take]; omega
  obtain ⟨fF, K, k, E, a, b, oo, pl⟩ := e
  have hk : k < 32 := hokB.2.1
  obtain ⟨b1, b2, b3, b4, b5, b6, b7⟩ := a5 k hk
  obtain ⟨q1, q2, q3, q4, q5, q6, q7⟩ := hpr k hk
  have hba : tx k ≠ 0 → baI (pr k) = ba k := fun ht => nI16 _ (by have := (b6 ht).2.2; omega) (q4 ht)
  have hup : ∀ (s : PS) (e' t' b' a' : Nat) (d' : Int32) (l' c' : Nat) (ep' tx' bg' ba' : Nat → Nat) (ad' : Nat → Int32) (lc' de' : Nat → Nat), PR s e' t' b' a' d' l' c' → (ep' = va_up ep k e' ∧ tx' = va_up tx k t' ∧ bg' = va_up bg k b' ∧ ba' = va_up ba k a' ∧ ad' = va_up ad k d' ∧ lc' = va_up lc k l' ∧ de' = va_up de k c') → ∀ j, j < 32 → PR (va_up pr k s j) (ep' j) (tx' j) (bg' j) (ba' j) (ad' j) (lc' j) (de' j) := by
    rintro s e' t' b' a' d' l' c' ep' tx' bg' ba' ad' lc' de' hs ⟨rfl, rfl, rfl, rfl, rfl, rfl, rfl⟩ j hj
    by_cases z : j = k
    · subst z; simp only [va_up_self]; exact hs
    · simp only [va_up_ne _ _ z]; exact hpr j hj
  have hid : ∀ {α : Type} (f : Nat → α), f = va_up f k (f k) := by
    intro α f
    funext j
    by_cases z : j = k
    · subst z; rw [va_up_self]
    · rw [va_up_ne _ _ z]
  simp only [tellP, tellM, tellN, he]
  rcases (by have : K ≤ 6 := hokB.1; omega : K = 0 ∨ K = 1 ∨ K = 2 ∨ K = 3 ∨ K = 4 ∨ K = 5 ∨ K = 6) with z | z | z | z | z | z | z <;> subst z
  · exact ⟨hup _ (E + 1) (tx k) (bg k) (ba k) (ad k) (lc k) (de k) _ _ _ _ _ _ _ ⟨(m1_s E).symm, q2, q3, q4, q5, q6, q7⟩ ⟨rfl, hid _, hid _, hid _, hid _, hid _, hid _⟩, hmk, rfl⟩
  · exact ⟨hup _ (ep k) (b + 1) (a + 1) n (ad k) (lc k) (de k) _ _ _ _ _ _ _ ⟨q1, (m1_s b).symm, (m1_s a).symm, fun _ => by rw [hn], q5, q6, q7⟩ ⟨hid _, rfl, rfl, rfl, hid _, hid _, hid _⟩, hmk, rfl⟩
  · exact ⟨hup _ (ep k) (tx k) (bg k) (ba k) (ad k ||| (nI 1 <<< (nI a &&& 31))) (lc k) (de k) _ _ _ _ _ _ _ ⟨q1, q2, q3, q4, by simp only [q5], q6, q7⟩ ⟨hid _, hid _, hid _, hid _, rfl, hid _, hid _⟩, hmk, rfl⟩
  · exact ⟨hup _ (ep k) (tx k) (bg k) (ba k) (ad k) (lc k + 1) (de k) _ _ _ _ _ _ _ ⟨q1, q2, q3, q4, q5, by simp only [q6]; exact nI_add _ _, q7⟩ ⟨hid _, hid _, hid _, hid _, hid _, rfl, hid _⟩, hmk, rfl⟩
  · exact ⟨hup _ (ep k) (tx k) (bg k) (ba k) (ad k) (lc k) (a + 1) _ _ _ _ _ _ _ ⟨q1, q2, q3, q4, q5, q6, (m1_s a).symm⟩ ⟨hid _, hid _, hid _, hid _, hid _, hid _, rfl⟩, hmk, rfl⟩
  · refine ⟨hup _ (ep k) 0 0 (ba k) (nI 0) 0 0 _ _ _ _ _ _ _ ⟨q1, m1_0.symm, m1_0.symm, fun z => absurd rfl z, rfl, rfl, m1_0.symm⟩ ⟨hid _, rfl, rfl, hid _, rfl, rfl, rfl⟩, ?_, rfl⟩
    intro i hi
    show (if (pr k).2.2.2.2.2.2 = nI 1 then mlat bk k (baI (pr k)) (j - baI (pr k)) mk else mk) i = m1 ((if de k = 2 then mkOf la (tx k - 1) mq else mq) i)
    rw [q7]
    have hde : m1 (de k) = nI 1 ↔ de k = 2 := m1_nI (by omega) (by omega)
    by_cases y : de k = 2
    · have ht : tx k ≠ 0 := fun q => by have := (b7 q).2.2.2; omega
      rw [if_pos (hde.mpr y), if_pos y, hba ht, mkOf_L, (l k hk ht).1, hZ]
      have hbl := (b6 ht).2.2
      rw [mlat_L k _ _ _ mk mq (by omega) hall hmk i hi]
      rw [List.drop_take]
    · rw [if_neg (fun z => y (hde.mp z)), if_neg y]
      exact hmk i hi
  · refine ⟨hpr, ?_, rfl⟩
    intro i hi
    show upd mk a (nI b) i = m1 (va_up mq a (b + 1) i)
    by_cases y : i = a
    · subst y; rw [va_up_self, m1_s]; simp [upd]
    · rw [va_up_ne _ _ y, ← hmk i hi]; simp only [upd]; rw [if_neg y]
theorem CE.of {T : TS} (w : CW h (P, cap, tmo, clk, cl, cut, T.2.2.2.2.2.2.2.2.2.1) (lgO P X) (tnO P torn tE) (fl P X) (btO P torn tE) (unO P X sy) pr mk tp an) (h1 : ∀ k, k < 32 → PR (pr k) (T.2.1 k) (T.2.2.1 k) (T.2.2.2.1 k) (T.2.2.2.2.1 k) (T.2.2.2.2.2.1 k) (T.2.2.2.2.2.2.1 k) (T.2.2.2.2.2.2.2.1 k)) (h2 : ∀ i, i < 64 → mk i = m1 (T.2.2.2.2.2.2.2.2.1 i)) (h3 : sy ≤ X.length) : CE h P cap tmo clk cl cut X sy torn tE tp an T := by
  obtain ⟨n, ep, tx, bg, ba, ad, lc, de, mq, nx, la, en⟩ := T
  exact ⟨pr, mk, w, h1, h2, h3⟩
theorem c_learn {j : Nat} (hv : pv P cap X) (hj : j < (fl P X).length) (w : CE h P cap tmo clk cl cut X sy 0 tE tp an (toldB ((fl P X).take j))) : ev (d + 3) n_X4_learn [.ref 0, .int (nI (16 * j))] h (fun u => u.1 = none ∧ FS cC h u.2 ∧ CE u.2 P cap tmo clk cl cut X sy 0 tE tp an (toldB ((fl P X).take (j + 1)))) := by
  obtain ⟨m, hm, hZ⟩ := fl_pre P X j (by omega)
  obtain ⟨m', hm', hZ'⟩ := fl_pre P X (j + 1) (by omega)
  have g := hv m hm
  have g' := hv m' hm'
  rw [told_B, hZ] at g
  rw [told_B, hZ'] at g'
  have hgX := (pv_all hv).1
  rw [toldB_s hj] at g' ⊢
  generalize toldB ((fl P X).take j) = T at *
  obtain ⟨n, ep, tx, bg, ba, ad, lc, de, mq, nx, la, en⟩ := T
  obtain ⟨pr, mk, w, hpr, hmk, hsy⟩ := w
  have hall := w.2.2.2.2.2.2.2.2.2.2.2.2
  have hokB := hall _ (getD_mem hj)
  obtain ⟨t1, t2, t3⟩ := tell_rel hj rfl hZ g hall hpr hmk
  have ga := g.1
  obtain ⟨a1, a2, a3, a4, a5, a6, a7, a8⟩ := ga
  obtain ⟨b1, b2, b3, b4, b5, b6, b7⟩ := a5 _ hokB.2.1
  obtain ⟨q1, q2, q3, q4, q5, q6, q7⟩ := hpr _ hokB.2.1
  have hn : n = j := by rw [a1, hZ, List.length_take]; omega
  refine ev_post (e_learn (d := d) j hj ?_ ?_ w) ?_
  · intro hK
    clear t1 t2 t3 hokB b1 b2 b3 b4 b5 b6 b7 q1 q2 q3 q4 q5 q6 q7
    generalize (fl P X).getD j en0 = e at *
    obtain ⟨fF, K, k, E, a, b, oo, pl⟩ := e
    have hK : K = 1 := hK
    subst hK
    have h1 : b + 1 ≤ n + 1 := g'.1.2.1
    have h2 : 16 * (n + 1) + _ ≤ 16000 := g'.2.2.2.2.1
    show b + 1 < 2 ^ 30
    omega
  · intro hK hd
    rw [q7] at hd
    have hd2 := (m1_nI (by omega) (by omega)).mp hd
    have ht : tx (eY ((fl P X).getD j en0)) ≠ 0 := fun q => by have := (b7 q).2.2.2; omega
    exact ⟨_, q4 ht, by have := (b6 ht).2.2; omega⟩
  · rintro ⟨v, h2⟩ ⟨e1, hF, w2⟩
    refine ⟨e1, hF, CE.of (pr := tellP (fl P X) j pr) (mk := tellM (fl P X) j pr mk) ?_ t1 t2 hsy⟩
    rw [← t3]
    exact w2
theorem l_op2 (hv : pv P cap X) : ∀ (r j : Nat) (h : ix_H), j + r = (fl P X).length → CE h P cap tmo clk false cut X sy 0 tE tp an (toldB ((fl P X).take j)) →
    gs none (d + 7) mD_X4_open (83, [(1, .int (nI (16 * j))), (0, .ref 0)], [], h) (fun u => u.1 = some (.int (nI (ovr (txF P) (dueD P) (finX P) 32 X).1)) ∧ FS cC h u.2 ∧ CE u.2 P cap tmo clk false cut (ovr (txF P) (dueD P) (finX P) 32 X).2 sy 0 tE tp an (told P (ovr (txF P) (dueD P) (finX P) 32 X).2)) := by
  intro r
  induction r with
  | zero =>
    intro j h hj w
    have hbk := w.book
    have hb1 := hbk.1
    have hb2 := hbk.2.2.1
    have hbl : (bytesF P 0 tE X P).length = 16 * (fl P X).length := by unfold bytesF; rw [if_neg (Nat.lt_irrefl _), btO_0, List.append_nil, flatB_len]
    rw [hbl] at hb1 hb2
    have w1 := w.obj'
    rw [List.take_of_length_le (by omega), ← told_B] at w
    refine gs_n 84 a_X4_open_83 rfl ?_
    refine gs_n 85 a_X4_open_84 rfl ?_
    refine gs_get 88 a_X4_open_85 f_4_30 (by first | assumption | exact hs_same _ _ _ | exact (hs_ne _ _ (by first | assumption | decide | omega)).trans (by first | assumption | exact hs_same _ _ _ | exact (hs_ne _ _ (by first | assumption | decide | omega)).trans (by first | assumption | exact hs_same _ _ _ | exact (hs_ne _ _ (by first | assumption | decide | omega)).trans (by first | assumption | exact hs_same _ _ _ | exact (hs_ne _ _ (by first | assumption | decide | omega)).trans (by first | assumption | exact hs_same _ _ _))))) rfl rfl ?_
    refine gs_get 91 a_X4_open_88 f_4_56 (by first | assumption | exact hs_same _ _ _ | exact (hs_ne _ _ (by first | assumption | decide | omega)).trans (by first | assumption | exact hs_same _ _ _ | exact (hs_ne _ _ (by first | assumption | decide | omega)).trans (by first | assumption | exact hs_same _ _ _ | exact (hs_ne _ _ (by first | assumption | decide | omega)).trans (by first | assumption | exact hs_same _ _ _ | exact (hs_ne _ _ (by first | assumption | decide | omega)).trans (by first | assumption | exact hs_same _ _ _))))) rfl rfl ?_
    refine gs_ic 105 94 a_X4_open_91 rfl rfl (fun c => ?_) (fun c => ?_)
    · refine gs_n 106 a_X4_open_105 rfl ?_
      refine gs_cv 109 a_X4_open_106 k_4_177 q_X4_finishDecided (c_finD hv w) rfl rfl rfl (by simp [Value.category]) (by first | assumption | exact hs_same _ _ _ | exact (hs_ne _ _ (by first | assumption | decide | omega)).trans (by first | assumption | exact hs_same _ _ _ | exact (hs_ne _ _ (by first | assumption | decide | omega)).trans (by first | assumption | exact hs_same _ _ _ | exact (hs_ne _ _ (by first | assumption | decide | omega)).trans (by first | assumption | exact hs_same _ _ _ | exact (hs_ne _ _ (by first | assumption | decide | omega)).trans (by first | assumption | exact hs_same _ _ _))))) rfl (fun v h2 hp => ?_)
      obtain ⟨e1, hF, w2⟩ := hp
      simp only at e1
      subst e1
      refine gs_iret a_X4_open_109 rfl rfl ?_
      exact ⟨rfl, hF, w2⟩
    · exact absurd (nI_le (by omega) (by omega)) c
  | succ r ih =>
    intro j h hj w
    have hbk := w.book
    have hb1 := hbk.1
    have hb2 := hbk.2.2.1
    have hbl : (bytesF P 0 tE X P).length = 16 * (fl P X).length := by unfold bytesF; rw [if_neg (Nat.lt_irrefl _), btO_0, List.append_nil, flatB_len]
    rw [hbl] at hb1 hb2
    have w1 := w.obj'
    refine gs_n 84 a_X4_open_83 rfl ?_
    refine gs_n 85 a_X4_open_84 rfl ?_
    refine gs_get 88 a_X4_open_85 f_4_30 (by first | assumption | exact hs_same _ _ _ | exact (hs_ne _ _ (by first | assumption | decide | omega)).trans (by first | assumption | exact hs_same _ _ _ | exact (hs_ne _ _ (by first | assumption | decide | omega)).trans (by first | assumption | exact hs_same _ _ _ | exact (hs_ne _ _ (by first | assumption | decide | omega)).trans (by first | assumption | exact hs_same _ _ _ | exact (hs_ne _ _ (by first | assumption | decide | omega)).trans (by first | assumption | exact hs_same _ _ _))))) rfl rfl ?_
    refine gs_get 91 a_X4_open_88 f_4_56 (by first | assumption | exact hs_same _ _ _ | exact (hs_ne _ _ (by first | assumption | decide | omega)).trans (by first | assumption | exact hs_same _ _ _ | exact (hs_ne _ _ (by first | assumption | decide | omega)).trans (by first | assumption | exact hs_same _ _ _ | exact (hs_ne _ _ (by first | assumption | decide | omega)).trans (by first | assumption | exact hs_same _ _ _ | exact (hs_ne _ _ (by first | assumption | decide | omega)).trans (by first | assumption | exact hs_same _ _ _))))) rfl rfl ?_
    refine gs_ic 105 94 a_X4_open_91 rfl rfl (fun c => ?_) (fun c => ?_)
    · exact absurd c (nI_ge (by omega) (by omega))
    · refine gs_n 95 a_X4_open_94 rfl ?_
      refine gs_n 96 a_X4_open_95 rfl ?_
      refine gs_cv 99 a_X4_open_96 k_4_174 q_X4_learn (c_learn hv (by omega) w) rfl rfl rfl (by simp [Value.category]) (by first | assumption | exact hs_same _ _ _ | exact (hs_ne _ _ (by first | assumption | decide | omega)).trans (by first | assumption | exact hs_same _ _ _ | exact (hs_ne _ _ (by first | assumption | decide | omega)).trans (by first | assumption | exact hs_same _ _ _ | exact (hs_ne _ _ (by first | assumption | decide | omega)).trans (by first | assumption | exact hs_same _ _ _ | exact (hs_ne _ _ (by first | assumption | decide | omega)).trans (by first | assumption | exact hs_same _ _ _))))) rfl (fun v h2 hp => ?_)
      obtain ⟨e1, hF, w2⟩ := hp
      simp only at e1
      subst e1
      refine gs_n 102 a_X4_open_99 rfl ?_
      refine gs_n 83 a_X4_open_102 rfl ?_
      refine gs_w [(1, .int (nI (16 * j) + Int32.ofInt 16)), (0, .ref 0)] (by simp [ix_nd]) (by intro x hx; simp only [List.mem_cons, List.not_mem_nil, or_false] at hx; rcases hx with rfl | rfl <;> rfl) ?_
      rw [show nI (16 * j) + Int32.ofInt 16 = nI (16 * (j + 1)) from nI_add (16 * j) 16]
      refine gs_post (ih (j + 1) h2 (by omega) w2) ?_
      rintro u ⟨q1, q2, q3⟩
      exact ⟨q1, hF.trans q2, q3⟩
theorem torn_sum (h1 : 0 < torn → okE P tE ∧ torn < sz P tE) : (btO P torn tE).length + sm (fun p => (tnO P torn tE p).length) P = torn ∧ (btO P torn tE).length < 16 ∧ torn ≤ 54 := by
  by_cases z : 0 < torn
  · obtain ⟨h2, h3⟩ := h1 z
    have h54 := sz_le h2.1
    by_cases y : eF tE = P
    · have e1 : (btO P torn tE).length = torn := by
        unfold btO
        rw [if_pos y, List.length_take, encB_len]
        unfold sz at h3
        rw [if_pos y] at h3
        omega
      have e2 : ∀ m, m ≤ P → sm (fun p => (tnO P torn tE p).length) m = 0 := by
        intro m
        induction m with
        | zero => intro _; rfl
        | succ m ih =>
          intro hm
          simp only [sm]
          rw [ih (by omega)]
          unfold tnO
          rw [if_neg (by omega)]
          rfl
      have h16 : torn < 16 := by unfold sz at h3; rw [if_pos y] at h3; exact h3
      rw [e1, e2 P (Nat.le_refl _)]
      omega
    · have hlt : eF tE < P := by have := h2.2.1; omega
      have e1 : btO P torn tE = [] := by unfold btO; rw [if_neg y]
      have e2 := sm_diff (g := fun _ => 0) (g' := fun p => (tnO P torn tE p).length) (k := eF tE) P (fun i _ q => by
        show (tnO P torn tE i).length = 0
        unfold tnO
        rw [if_neg (fun r => q r.2.symm)]
        rfl) hlt
      have e3 : ∀ m, sm (fun _ => 0) m = 0 := by
        intro m
        induction m with
        | zero => rfl
        | succ m ih => simp only [sm]; exact ih
      have e4 : (tnO P torn tE (eF tE)).length = torn := by
        unfold tnO
        rw [if_pos ⟨hlt, rfl⟩, List.length_take, encP_sz h2 hlt]
        omega
      rw [e1, List.length_nil]
      rw [e3, e4] at e2
      omega
  · obtain rfl : torn = 0 := by omega
    rw [btO_0, tnO_0]
    have e3 : ∀ m, sm (fun _ => 0) m = 0 := by
      intro m
      induction m with
      | zero => rfl
      | succ m ih => simp only [sm]; exact ih
    simp only [List.length_nil]
    rw [e3]
    omega
theorem sm_mono {g : Nat → Nat} : ∀ (m j : Nat), j ≤ m → sm g j ≤ sm g m := by
  intro m
  induction m with
  | zero => intro j hj; rw [show j = 0 by omega]; exact Nat.le_refl _
  | succ m ih =>
    intro j hj
    by_cases z : j = m + 1
    · rw [z]; exact Nat.le_refl _
    · have := ih j (by omega)
      simp only [sm]
      omega
theorem l_op1 {bt0 nx0 : Nat} (hv : pv P cap X) (hP : P ≤ 8) (hsum : bt0 + sm (fun p => (tnO P torn tE p).length) P = torn) (ht : torn ≤ 54) : ∀ (r j : Nat) (h : ix_H), j + r = P → CW h (P, cap, tmo, clk, false, bt0 + sm (fun p => (tnO P torn tE p).length) j, nx0) (lgO P X) (fun p => if p < j then [] else tnO P torn tE p) (fl P X) [] (unO P X sy) pr mk tp an →
    (∀ h2, FS cC h h2 → CW h2 (P, cap, tmo, clk, false, torn, nx0) (lgO P X) (fun _ => []) (fl P X) [] (unO P X sy) pr mk tp an → CE h2 P cap tmo clk false torn X sy 0 tE tp an T0) →
    gs none (d + 7) mD_X4_open (49, [(1, .int (nI j)), (0, .ref 0)], [], h) (fun u => u.1 = some (.int (nI (ovr (txF P) (dueD P) (finX P) 32 X).1)) ∧ FS cC h u.2 ∧ CE u.2 P cap tmo clk false torn (ovr (txF P) (dueD P) (finX P) 32 X).2 sy 0 tE tp an (told P (ovr (txF P) (dueD P) (finX P) 32 X).2)) := by
  intro r
  induction r with
  | zero =>
    intro j h hj w hce
    obtain rfl : j = P := by omega
    have w1 := w.1
    unfold ocell at w1
    refine gs_n 50 a_X4_open_49 rfl ?_
    refine gs_n 51 a_X4_open_50 rfl ?_
    refine gs_get 54 a_X4_open_51 f_4_146 (by first | assumption | exact hs_same _ _ _ | exact (hs_ne _ _ (by first | assumption | decide | omega)).trans (by first | assumption | exact hs_same _ _ _ | exact (hs_ne _ _ (by first | assumption | decide | omega)).trans (by first | assumption | exact hs_same _ _ _ | exact (hs_ne _ _ (by first | assumption | decide | omega)).trans (by first | assumption | exact hs_same _ _ _ | exact (hs_ne _ _ (by first | assumption | decide | omega)).trans (by first | assumption | exact hs_same _ _ _))))) rfl rfl ?_
    refine gs_ic 81 57 a_X4_open_54 rfl rfl (fun c => ?_) (fun c => ?_)
    · refine gs_k (nI 0) 82 a_X4_open_81 (by decide +kernel) rfl ?_
      refine gs_n 83 a_X4_open_82 rfl ?_
      refine gs_w [(1, .int (nI (16 * 0))), (0, .ref 0)] (by simp [ix_nd]) (by intro x hx; simp only [List.mem_cons, List.not_mem_nil, or_false] at hx; rcases hx with rfl | rfl <;> rfl) ?_
      have w2 := hce h (FS.rf _ _) (by
        rw [hsum] at w
        rw [show (fun _ => []) = (fun p => if p < j then [] else tnO j torn tE p) by
          funext p
          by_cases z : p < j
          · rw [if_pos z]
          · rw [if_neg z]; unfold tnO; rw [if_neg (fun q => z q.1)]]
        exact w)
      exact l_op2 hv (fl j X).length 0 h (by omega) w2
    · exact absurd (nI_le (Nat.le_refl _) (by omega)) c
  | succ r ih =>
    intro j h hj w hce
    have hjP : j < P := by omega
    have w1 := w.1
    unfold ocell at w1
    have hsc := w.2.1
    obtain ⟨f6, w6, w6'⟩ := w.2.2.2.2.2.1
    have hl := w.2.2.2.2.2.2.2.2.2.2.1 j (by omega)
    simp only [Nat.lt_irrefl, if_false] at hl
    have hl1 := hl.1
    have hm := sm_mono (g := fun p => (tnO P torn tE p).length) P (j + 1) (by omega)
    have hs1 : sm (fun p => (tnO P torn tE p).length) (j + 1) = sm (fun p => (tnO P torn tE p).length) j + (tnO P torn tE j).length := rfl
    refine gs_n 50 a_X4_open_49 rfl ?_
    refine gs_n 51 a_X4_open_50 rfl ?_
    refine gs_get 54 a_X4_open_51 f_4_146 (by first | assumption | exact hs_same _ _ _ | exact (hs_ne _ _ (by first | assumption | decide | omega)).trans (by first | assumption | exact hs_same _ _ _ | exact (hs_ne _ _ (by first | assumption | decide | omega)).trans (by first | assumption | exact hs_same _ _ _ | exact (hs_ne _ _ (by first | assumption | decide | omega)).trans (by first | assumption | exact hs_same _ _ _ | exact (hs_ne _ _ (by first | assumption | decide | omega)).trans (by first | assumption | exact hs_same _ _ _))))) rfl rfl ?_
    refine gs_ic 81 57 a_X4_open_54 rfl rfl (fun c => ?_) (fun c => ?_)
    · exact absurd c (nI_ge (by omega) (by omega))
    · refine gs_n 58 a_X4_open_57 rfl ?_
      refine gs_n 59 a_X4_open_58 rfl ?_
      refine gs_get 62 a_X4_open_59 f_4_168 (by first | assumption | exact hs_same _ _ _ | exact (hs_ne _ _ (by first | assumption | decide | omega)).trans (by first | assumption | exact hs_same _ _ _ | exact (hs_ne _ _ (by first | assumption | decide | omega)).trans (by first | assumption | exact hs_same _ _ _ | exact (hs_ne _ _ (by first | assumption | decide | omega)).trans (by first | assumption | exact hs_same _ _ _ | exact (hs_ne _ _ (by first | assumption | decide | omega)).trans (by first | assumption | exact hs_same _ _ _))))) rfl rfl ?_
      refine gs_n 63 a_X4_open_62 rfl ?_
      refine gs_get 66 a_X4_open_63 f_4_26 (by first | assumption | exact hs_same _ _ _ | exact (hs_ne _ _ (by first | assumption | decide | omega)).trans (by first | assumption | exact hs_same _ _ _ | exact (hs_ne _ _ (by first | assumption | decide | omega)).trans (by first | assumption | exact hs_same _ _ _ | exact (hs_ne _ _ (by first | assumption | decide | omega)).trans (by first | assumption | exact hs_same _ _ _ | exact (hs_ne _ _ (by first | assumption | decide | omega)).trans (by first | assumption | exact hs_same _ _ _))))) rfl rfl ?_
      refine gs_n 67 a_X4_open_66 rfl ?_
      refine gs_aa j (16 + 6 * j) 68 a_X4_open_67 (by first | assumption | exact hs_same _ _ _ | exact (hs_ne _ _ (by first | assumption | decide | omega)).trans (by first | assumption | exact hs_same _ _ _ | exact (hs_ne _ _ (by first | assumption | decide | omega)).trans (by first | assumption | exact hs_same _ _ _ | exact (hs_ne _ _ (by first | assumption | decide | omega)).trans (by first | assumption | exact hs_same _ _ _ | exact (hs_ne _ _ (by first | assumption | decide | omega)).trans (by first | assumption | exact hs_same _ _ _))))) rfl (by omega) (by decide) (by simp) (w6' j (by omega)) rfl ?_
      refine gs_cv 71 a_X4_open_68 k_4_171 q_X1_cutBroken (e_cutBroken hl) rfl rfl rfl (by simp [Value.category]) (by first | assumption | exact hs_same _ _ _ | exact (hs_ne _ _ (by first | assumption | decide | omega)).trans (by first | assumption | exact hs_same _ _ _ | exact (hs_ne _ _ (by first | assumption | decide | omega)).trans (by first | assumption | exact hs_same _ _ _ | exact (hs_ne _ _ (by first | assumption | decide | omega)).trans (by first | assumption | exact hs_same _ _ _ | exact (hs_ne _ _ (by first | assumption | decide | omega)).trans (by first | assumption | exact hs_same _ _ _))))) rfl (fun v h2 hp => ?_)
      obtain ⟨e1, hF, hl2⟩ := hp
      simp only at e1
      subst e1
      have w2 := w.log (p0 := j) (by omega) (FS.of hF (by intro k hk; simp at hk; omega)) hl2
      have e2 : va_up (lgO P X) j (lgO P X j) = lgO P X := by
        funext k
        by_cases z : k = j
        · subst z; rw [va_up_self]
        · rw [va_up_ne _ _ z]
      have e3 : va_up (fun p => if p < j then [] else tnO P torn tE p) j [] = fun p => if p < j + 1 then [] else tnO P torn tE p := by
        funext k
        by_cases z : k = j
        · subst z; rw [va_up_self, if_pos (by omega)]
        · rw [va_up_ne _ _ z]
          by_cases y : k < j
          · rw [if_pos y, if_pos (by omega)]
          · rw [if_neg y, if_neg (by omega)]
      rw [e2, e3] at w2
      have k1 := w2.1
      unfold ocell at k1
      refine gs_n 72 a_X4_open_71 rfl ?_
      refine gs_put 75 _ a_X4_open_72 f_4_168 (by first | assumption | exact hs_same _ _ _ | exact (hs_ne _ _ (by first | assumption | decide | omega)).trans (by first | assumption | exact hs_same _ _ _ | exact (hs_ne _ _ (by first | assumption | decide | omega)).trans (by first | assumption | exact hs_same _ _ _ | exact (hs_ne _ _ (by first | assumption | decide | omega)).trans (by first | assumption | exact hs_same _ _ _ | exact (hs_ne _ _ (by first | assumption | decide | omega)).trans (by first | assumption | exact hs_same _ _ _))))) (Nat.le_of_ble_eq_true rfl) rfl (fun z => absurd z (by decide)) rfl rfl ?_
      rw [nI_add, show bt0 + sm (fun p => (tnO P torn tE p).length) j + (tnO P torn tE j).length = bt0 + sm (fun p => (tnO P torn tE p).length) (j + 1) by rw [hs1]; omega]
      have w3 := w2.obj (sc' := (P, cap, tmo, clk, false, bt0 + sm (fun p => (tnO P torn tE p).length) (j + 1), nx0)) (h' := ix_set h2 0 (ocell (P, cap, tmo, clk, false, bt0 + sm (fun p => (tnO P torn tE p).length) (j + 1), nx0))) (Fr.set _ (by simp)) (hs_same _ _ _) (by
        unfold scOk at hsc ⊢
        simp only at hsc ⊢
        omega)
      have hFS : FS cC h (ix_set h2 0 (ocell (P, cap, tmo, clk, false, bt0 + sm (fun p => (tnO P torn tE p).length) (j + 1), nx0))) := (FS.of hF (by intro k hk; simp at hk; unfold cC; omega)).trans (FS.of (Fr.set _ (List.mem_singleton.mpr rfl)) (by intro k hk; simp at hk; subst hk; unfold cC; omega))
      change gs none _ _ (75, _, [], ix_set h2 0 (ocell (P, cap, tmo, clk, false, bt0 + sm (fun p => (tnO P torn tE p).length) (j + 1), nx0))) _
      generalize ix_set h2 0 (ocell (P, cap, tmo, clk, false, bt0 + sm (fun p => (tnO P torn tE p).length) (j + 1), nx0)) = h3 at *
      first | refine gs_inc _ 78 a_X4_open_75 rfl (Nat.le_of_ble_eq_true rfl) rfl ?_ | refine gs_n 78 a_X4_open_75 rfl ?_
      refine gs_n 49 a_X4_open_78 rfl ?_
      refine gs_w [(1, .int (nI (j + 1))), (0, .ref 0)] (by simp [ix_nd]) (by intro x hx; simp only [List.mem_cons, List.not_mem_nil, or_false] at hx; rcases hx with rfl | rfl <;> rfl) ?_
      refine gs_post (ih (j + 1) h3 (by omega) w3 (fun h4 hF4 w4 => hce h4 (hFS.trans hF4) w4)) ?_
      rintro u ⟨q1, q2, q3⟩
      exact ⟨q1, hFS.trans q2, q3⟩
theorem c_open (hs : SI (P, cap, tmo, clk, cl, cut, X, sy, torn, tE, tp, an)) (w : CS h (P, cap, tmo, clk, cl, cut, X, sy, torn, tE, tp, an)) : ev (d + 8) n_X4_open [.ref 0] h (fun u => u.1 = some (.int (F_open (P, cap, tmo, clk, cl, cut, X, sy, torn, tE, tp, an)).1) ∧ FS cC h u.2 ∧ CS u.2 (F_open (P, cap, tmo, clk, cl, cut, X, sy, torn, tE, tp, an)).2) := by
  obtain ⟨s1, s2, s3, s4, s5, s6, s7, s8, s9, hv, s11, s12, -⟩ := hs
  have w' : CE h P cap tmo clk cl cut X sy torn tE tp an (tS cl P X) := w
  have w1 := w'.obj'
  simp only [F_open]
  refine ev_of q_X4_open (Nat.le_of_ble_eq_true rfl) ?_
  refine gs_n 1 a_X4_open_0 rfl ?_
  refine gs_get 4 a_X4_open_1 f_4_63 (by first | assumption | exact hs_same _ _ _ | exact (hs_ne _ _ (by first | assumption | decide | omega)).trans (by first | assumption | exact hs_same _ _ _ | exact (hs_ne _ _ (by first | assumption | decide | omega)).trans (by first | assumption | exact hs_same _ _ _ | exact (hs_ne _ _ (by first | assumption | decide | omega)).trans (by first | assumption | exact hs_same _ _ _ | exact (hs_ne _ _ (by first | assumption | decide | omega)).trans (by first | assumption | exact hs_same _ _ _))))) rfl rfl ?_
  refine gs_if 9 7 a_X4_open_4 rfl rfl (fun c4 => ?_) (fun c4 => ?_)
  · have c4 := (b01_ne _).mp c4
    subst c4
    rw [if_neg (by simp)]
    obtain ⟨t1, t2, t3⟩ := torn_sum s12
    have hbk := w'.book
    have hb1 := hbk.1
    have hb2 := hbk.2.2.1
    have hbl : (bytesF P torn tE X P).length = 16 * (fl P X).length + (btO P torn tE).length := by unfold bytesF; rw [if_neg (Nat.lt_irrefl _), List.length_append, flatB_len]
    rw [hbl] at hb1 hb2
    have wT : CE h P cap tmo clk true cut X sy torn tE tp an T0 := w'
    obtain ⟨pr, mk, wc, hpr, hmk, hsy⟩ := wT
    have hsc := wc.2.1
    have w1' : h.2.2 0 = oE (nI P) (nI cap) (nI tmo) (nI clk) (b01 true) (nI cut) (nI 0) := wc.1
    refine gs_n 10 a_X4_open_9 rfl ?_
    refine gs_k (nI 0) 11 a_X4_open_10 (by decide +kernel) rfl ?_
    refine gs_put 14 _ a_X4_open_11 f_4_63 (by first | assumption | exact hs_same _ _ _ | exact (hs_ne _ _ (by first | assumption | decide | omega)).trans (by first | assumption | exact hs_same _ _ _ | exact (hs_ne _ _ (by first | assumption | decide | omega)).trans (by first | assumption | exact hs_same _ _ _ | exact (hs_ne _ _ (by first | assumption | decide | omega)).trans (by first | assumption | exact hs_same _ _ _ | exact (hs_ne _ _ (by first | assumption | decide | omega)).trans (by first | assumption | exact hs_same _ _ _))))) (Nat.le_of_ble_eq_true rfl) rfl (fun z => absurd z (by decide)) rfl rfl ?_
    refine gs_n 15 a_X4_open_14 rfl ?_
    refine gs_n 16 a_X4_open_15 rfl ?_
    refine gs_get 19 a_X4_open_16 f_4_30 (by first | assumption | exact hs_same _ _ _ | exact (hs_ne _ _ (by first | assumption | decide | omega)).trans (by first | assumption | exact hs_same _ _ _ | exact (hs_ne _ _ (by first | assumption | decide | omega)).trans (by first | assumption | exact hs_same _ _ _ | exact (hs_ne _ _ (by first | assumption | decide | omega)).trans (by first | assumption | exact hs_same _ _ _ | exact (hs_ne _ _ (by first | assumption | decide | omega)).trans (by first | assumption | exact hs_same _ _ _))))) rfl rfl ?_
    refine gs_get 22 a_X4_open_19 f_4_56 (by first | assumption | exact hs_same _ _ _ | exact (hs_ne _ _ (by first | assumption | decide | omega)).trans (by first | assumption | exact hs_same _ _ _ | exact (hs_ne _ _ (by first | assumption | decide | omega)).trans (by first | assumption | exact hs_same _ _ _ | exact (hs_ne _ _ (by first | assumption | decide | omega)).trans (by first | assumption | exact hs_same _ _ _ | exact (hs_ne _ _ (by first | assumption | decide | omega)).trans (by first | assumption | exact hs_same _ _ _))))) rfl rfl ?_
    refine gs_k (nI 16) 24 a_X4_open_22 (by decide +kernel) rfl ?_
    refine gs_rem 25 a_X4_open_24 (by decide +kernel) rfl ?_
    rw [pk_rem (by omega) (by omega) (by omega), show (16 * (fl P X).length + (btO P torn tE).length) % 16 = (btO P torn tE).length by omega]
    refine gs_put 28 _ a_X4_open_25 f_4_168 (by first | assumption | exact hs_same _ _ _ | exact (hs_ne _ _ (by first | assumption | decide | omega)).trans (by first | assumption | exact hs_same _ _ _ | exact (hs_ne _ _ (by first | assumption | decide | omega)).trans (by first | assumption | exact hs_same _ _ _ | exact (hs_ne _ _ (by first | assumption | decide | omega)).trans (by first | assumption | exact hs_same _ _ _ | exact (hs_ne _ _ (by first | assumption | decide | omega)).trans (by first | assumption | exact hs_same _ _ _))))) (Nat.le_of_ble_eq_true rfl) rfl (fun z => absurd z (by decide)) rfl rfl ?_
    have w2 := wc.obj (sc' := (P, cap, tmo, clk, false, (btO P torn tE).length, 0)) (h' := ix_set (ix_set h 0 (oE (nI P) (nI cap) (nI tmo) (nI clk) (nI 0) (nI cut) (nI 0))) 0 (ocell (P, cap, tmo, clk, false, (btO P torn tE).length, 0))) ((Fr.set _ (by simp)).trans (Fr.set _ (by simp))) (hs_same _ _ _) (by
      unfold scOk at hsc ⊢
      simp only at hsc ⊢
      omega)
    have hFS : FS cC h (ix_set (ix_set h 0 (oE (nI P) (nI cap) (nI tmo) (nI clk) (nI 0) (nI cut) (nI 0))) 0 (ocell (P, cap, tmo, clk, false, (btO P torn tE).length, 0))) := FS.of ((Fr.set _ (List.mem_singleton.mpr rfl)).trans (Fr.set _ (List.mem_singleton.mpr rfl))) (by intro k hk; simp at hk; subst hk; unfold cC; omega)
    change gs none _ _ (28, _, [], ix_set (ix_set h 0 (oE (nI P) (nI cap) (nI tmo) (nI clk) (nI 0) (nI cut) (nI 0))) 0 (ocell (P, cap, tmo, clk, false, (btO P torn tE).length, 0))) _
    generalize ix_set (ix_set h 0 (oE (nI P) (nI cap) (nI tmo) (nI clk) (nI 0) (nI cut) (nI 0))) 0 (ocell (P, cap, tmo, clk, false, (btO P torn tE).length, 0)) = h2 at *
    have k2 := w2.1
    unfold ocell at k2
    have r2 := w2.2.2.2.2.2.2.1
    have r21 := r2.1
    rw [List.length_append, flatB_len] at r21
    refine gs_n 29 a_X4_open_28 rfl ?_
    refine gs_get 32 a_X4_open_29 f_4_30 (by first | assumption | exact hs_same _ _ _ | exact (hs_ne _ _ (by first | assumption | decide | omega)).trans (by first | assumption | exact hs_same _ _ _ | exact (hs_ne _ _ (by first | assumption | decide | omega)).trans (by first | assumption | exact hs_same _ _ _ | exact (hs_ne _ _ (by first | assumption | decide | omega)).trans (by first | assumption | exact hs_same _ _ _ | exact (hs_ne _ _ (by first | assumption | decide | omega)).trans (by first | assumption | exact hs_same _ _ _))))) rfl rfl ?_
    refine gs_n 33 a_X4_open_32 rfl ?_
    refine gs_get 36 a_X4_open_33 f_4_30 (by first | assumption | exact hs_same _ _ _ | exact (hs_ne _ _ (by first | assumption | decide | omega)).trans (by first | assumption | exact hs_same _ _ _ | exact (hs_ne _ _ (by first | assumption | decide | omega)).trans (by first | assumption | exact hs_same _ _ _ | exact (hs_ne _ _ (by first | assumption | decide | omega)).trans (by first | assumption | exact hs_same _ _ _ | exact (hs_ne _ _ (by first | assumption | decide | omega)).trans (by first | assumption | exact hs_same _ _ _))))) rfl rfl ?_
    refine gs_get 39 a_X4_open_36 f_4_56 (by first | assumption | exact hs_same _ _ _ | exact (hs_ne _ _ (by first | assumption | decide | omega)).trans (by first | assumption | exact hs_same _ _ _ | exact (hs_ne _ _ (by first | assumption | decide | omega)).trans (by first | assumption | exact hs_same _ _ _ | exact (hs_ne _ _ (by first | assumption | decide | omega)).trans (by first | assumption | exact hs_same _ _ _ | exact (hs_ne _ _ (by first | assumption | decide | omega)).trans (by first | assumption | exact hs_same _ _ _))))) rfl rfl ?_
    refine gs_n 40 a_X4_open_39 rfl ?_
    refine gs_get 43 a_X4_open_40 f_4_168 (by first | assumption | exact hs_same _ _ _ | exact (hs_ne _ _ (by first | assumption | decide | omega)).trans (by first | assumption | exact hs_same _ _ _ | exact (hs_ne _ _ (by first | assumption | decide | omega)).trans (by first | assumption | exact hs_same _ _ _ | exact (hs_ne _ _ (by first | assumption | decide | omega)).trans (by first | assumption | exact hs_same _ _ _ | exact (hs_ne _ _ (by first | assumption | decide | omega)).trans (by first | assumption | exact hs_same _ _ _))))) rfl rfl ?_
    refine gs_n 44 a_X4_open_43 rfl ?_
    refine gs_top (nI (16 * (fl P X).length)) (by rw [pk_sub (Nat.le_add_left _ _), Nat.add_sub_cancel]) ?_
    refine gs_cv 47 a_X4_open_44 k_4_159 q_X0_cutTo (e_cutTo (16 * (fl P X).length) (by omega) r2) rfl rfl rfl (by simp [Value.category]) (by first | assumption | exact hs_same _ _ _ | exact (hs_ne _ _ (by first | assumption | decide | omega)).trans (by first | assumption | exact hs_same _ _ _ | exact (hs_ne _ _ (by first | assumption | decide | omega)).trans (by first | assumption | exact hs_same _ _ _ | exact (hs_ne _ _ (by first | assumption | decide | omega)).trans (by first | assumption | exact hs_same _ _ _ | exact (hs_ne _ _ (by first | assumption | decide | omega)).trans (by first | assumption | exact hs_same _ _ _))))) rfl (fun v h3 hp => ?_)
    obtain ⟨e1, hF3, hr3⟩ := hp
    simp only at e1
    subst e1
    have e4 : ((fl P X).flatMap encB ++ btO P torn tE).take (16 * (fl P X).length) = (fl P X).flatMap encB ++ [] := by
      rw [← flatB_len, List.take_left' rfl, List.append_nil]
    rw [e4] at hr3
    have w3 := w2.book hF3 hr3 w2.2.2.2.2.2.2.2.2.2.2.2.2
    have hFS3 := hFS.trans (FS.of hF3 cC_b)
    refine gs_k (nI 0) 48 a_X4_open_47 (by decide +kernel) rfl ?_
    refine gs_n 49 a_X4_open_48 rfl ?_
    refine gs_w [(1, .int (nI 0)), (0, .ref 0)] (by simp [ix_nd]) (by intro x hx; simp only [List.mem_cons, List.not_mem_nil, or_false] at hx; rcases hx with rfl | rfl <;> rfl) ?_
    refine gs_post (l_op1 (bt0 := (btO P torn tE).length) (nx0 := 0) hv s2 t1 t3 P 0 h3 (by omega) (by
      have e5 : (fun p => if p < 0 then [] else tnO P torn tE p) = tnO P torn tE := by funext p; rw [if_neg (by omega)]
      rw [e5]
      exact w3) (fun h4 _ w4 => ?_)) ?_
    · refine CE.of (pr := pr) (mk := mk) (T := T0) ?_ hpr hmk hsy
      rw [tnO_0, btO_0]
      exact w4
    · rintro u ⟨q1, q2, q3⟩
      exact ⟨q1, hFS3.trans q2, q3⟩
  · have c4 : cl = false := (b01_0 _).mp (Classical.byContradiction c4)
    rw [if_pos c4]
    refine gs_k (-1) 8 a_X4_open_7 (by decide +kernel) rfl ?_
    refine gs_iret a_X4_open_8 rfl rfl ?_
    exact ⟨rfl, FS.rf _ _, w⟩
end CO
