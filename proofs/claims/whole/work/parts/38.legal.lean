/-! EACH KIND OF ENTRY KEEPS WHAT HOLDS -/
section LG
variable {P cap : Nat} {X : List En} {n nx : Nat} {ep tx bg ba lc de mq en : Nat → Nat} {ad : Nat → Int32} {la : List (Nat × Nat × Nat)} {e : En}
theorem okE_book {K k E a b : Nat} (hP : P ≤ 8) (h1 : K ≤ 6) (h2 : k < 32) (h3 : E < 65536) (h4 : a < 2 ^ 31) (h5 : b < 2 ^ 31) (h6 : K = 3 ∨ K = 6 → a < 64) : okE P (P, K, k, E, a, b, 0, []) :=
  ⟨⟨hP, h1, h2, h3, h4, h5, Nat.zero_le _, fun z => absurd rfl z, Nat.zero_le _⟩, Nat.le_refl _, fun _ => ⟨h1, h2, h3, h4, h5, h6⟩, fun z => absurd z (Nat.lt_irrefl _)⟩
theorem okE_part {p K k E a o : Nat} {pl : List Nat} (hP : P ≤ 8) (hp : p < P) (h1 : K ≤ 3) (h2 : k < 32) (h3 : E < 65536) (h4 : a < 2 ^ 31) (h5 : pl.length ≤ 40) (h6 : o ≤ 1100) (h7 : ∀ x ∈ pl, x < 256) : okE P (p, K, k, E, a, pl.length, o, pl) :=
  ⟨⟨Nat.le_trans (Nat.le_of_lt hp) hP, Nat.le_trans h1 (by decide), h2, h3, h4, Nat.lt_of_le_of_lt h5 (by decide), h6, fun _ => ⟨rfl, h5, h7⟩, h5⟩, Nat.le_of_lt hp, fun z => absurd z (Nat.ne_of_lt hp), fun _ => ⟨h1, h2, h3, h4, rfl, h5, h7⟩⟩
theorem okE_snoc (h : ∀ x ∈ X, okE P x) (he : okE P e) : ∀ x ∈ X ++ [e], okE P x := by
  intro x hx
  rcases List.mem_append.mp hx with z | z
  · exact h x z
  · rw [List.mem_singleton.mp z]; exact he
theorem fl_b {p : Nat} (hp : p < P) (he : eF e = P) : fl p (X ++ [e]) = fl p X := by rw [fl_snoc, if_neg (by omega)]
theorem hEnd_b {p t : Nat} (hp : p < P) (he : eF e = P) : hEnd p (X ++ [e]) t = hEnd p X t := by unfold hEnd; rw [fl_b hp he]
theorem gFe_b {p o : Nat} (hp : p < P) (he : eF e = P) : gFe p (X ++ [e]) tx ad de nx en o = gFe p X tx ad de nx en o := by unfold gFe hEnd; rw [fl_b hp he]
theorem due_b {p : Nat} (hp : p < P) (he : eF e = P) : dueE p (X ++ [e]) tx ad = dueE p X tx ad := by funext k; unfold dueE; rw [hEnd_b hp he]
theorem by_b {p : Nat} (hp : p < P) (he : eF e = P) : bytesP p (X ++ [e]) = bytesP p X := by unfold bytesP; rw [fl_b hp he]
theorem eE1_b {nx' : Nat} (he : eF e = P) (h : ∀ x ∈ X, eF x ≠ P → 2 ≤ eK x → eA x < nx) (hn : nx ≤ nx') : ∀ x ∈ X ++ [e], eF x ≠ P → 2 ≤ eK x → eA x < nx' := by
  intro x hx h1 h2
  rcases List.mem_append.mp hx with z | z
  · exact Nat.lt_of_lt_of_le (h x z h1 h2) hn
  · rw [List.mem_singleton.mp z] at h1; exact absurd he h1
theorem latE_snoc (l : List En) (e : En) (k : Nat) : latE (l ++ [e]) k = latE l k ++ (if eK e = 3 ∧ eY e = k then [(eA e, eB e)] else []) := by
  unfold latE
  rw [List.filter_append, List.map_append]
  by_cases z : eK e = 3 ∧ eY e = k
  · simp [z]
  · rw [if_neg z]; simp [z]
theorem latT_snoc (l : List (Nat × Nat × Nat)) (x : Nat × Nat × Nat) (t : Nat) : latT (l ++ [x]) t = latT l t ++ (if x.1 = t then [x.2] else []) := by
  unfold latT
  rw [List.filter_append, List.map_append]
  by_cases z : x.1 = t
  · simp [z]
  · rw [if_neg z]; simp [z]
theorem latT_new {t : Nat} (h : ∀ x ∈ la, x.1 < t) : latT la t = [] := by
  unfold latT
  rw [List.filter_eq_nil_iff.mpr]
  · rfl
  · intro x hx
    have := h x hx
    simp
    omega
theorem drop_sn {l : List En} {i : Nat} (h : i ≤ l.length) : (l ++ [e]).drop i = l.drop i ++ [e] := List.drop_append_of_le_length h
/-- a book entry that is no LATER and begins nothing keeps the laters -/
theorem gL_b (he : eF e = P) (h3 : eK e ≠ 3) (hba : ∀ k, k < 32 → tx k ≠ 0 → ba k < (fl P X).length) (h : gL P X (n, ep, tx, bg, ba, ad, lc, de, mq, nx, la, en)) : ∀ k, k < 32 → tx k ≠ 0 → latT la (tx k - 1) = latE ((fl P (X ++ [e])).drop (ba k)) k ∧ lc k = (latT la (tx k - 1)).length := by
  intro k hk ht
  have := h k hk ht
  rw [fl_snoc, if_pos he, drop_sn (Nat.le_of_lt (hba k hk ht)), latE_snoc, if_neg (fun z => h3 z.1), List.append_nil]
  exact this
theorem flB_len (he : eF e = P) : (fl P (X ++ [e])).length = (fl P X).length + 1 := by rw [fl_snoc, if_pos he, List.length_append]; rfl
theorem G_reg {k : Nat} (hP : P ≤ 8) (g : GT P cap X (n, ep, tx, bg, ba, ad, lc, de, mq, nx, la, en)) (hk : k < 32) (ht : tx k = 0) (hr : 16 * n + 16 + sm (res tx de) 32 ≤ 16000) : GT P cap (X ++ [(P, 0, k, ep k, 0, 0, 0, [])]) (n + 1, va_up ep k (ep k + 1), tx, bg, ba, ad, lc, de, mq, nx, la, en) := by
  obtain ⟨⟨a1, a2, a3, a4, a5, a6, a7, a8⟩, l, ⟨e1, e2, e3⟩, f, ⟨r1, r2⟩⟩ := g
  have hep := (a5 k hk).1
  refine ⟨⟨?_, ?_, ?_, okE_snoc a4 (okE_book hP (by omega) hk (by omega) (by omega) (by omega) (by omega)), ?_, a6, a7, a8⟩, gL_b rfl (Nat.ne_of_beq_eq_false rfl) (fun k hk ht => a1 ▸ ((a5 k hk).2.2.2.2.2.1 ht).2.2) l, ⟨eE1_b rfl e1 (Nat.le_refl _), e2, fun j hj h1 h2 p hp => by rw [hEnd_b hp rfl]; exact e3 j hj h1 h2 p hp⟩, fun p hp o ho hK => ?_, ⟨by omega, fun p hp => by rw [by_b hp rfl, due_b hp rfl]; exact r2 p hp⟩⟩
  · rw [flB_len (P := P) rfl]; omega
  · omega
  · omega
  · intro j hj
    obtain ⟨b1, b2, b3, b4, b5, b6, b7⟩ := a5 j hj
    refine ⟨?_, b2, b3, b4, by omega, ?_, b7⟩
    · by_cases z : j = k
      · subst z; rw [va_up_self]; omega
      · rw [va_up_ne _ _ z]; omega
    · intro h
      have := b6 h
      by_cases z : j = k
      · subst z; omega
      · rw [va_up_ne _ _ z]; omega
  · rw [gFe_b hp rfl]
    rw [fl_b hp rfl] at ho hK
    exact f p hp o ho hK
theorem G_mark {a b : Nat} (hP : P ≤ 8) (g : GT P cap X (n, ep, tx, bg, ba, ad, lc, de, mq, nx, la, en)) (ha : a < 64) (hb : b < 2 ^ 31) (hr : 16 * n + 16 + sm (res tx de) 32 ≤ 16000) : GT P cap (X ++ [(P, 6, 0, 0, a, b, 0, [])]) (n + 1, ep, tx, bg, ba, ad, lc, de, va_up mq a (b + 1), nx, la, en) := by
  obtain ⟨⟨a1, a2, a3, a4, a5, a6, a7, a8⟩, l, ⟨e1, e2, e3⟩, f, ⟨r1, r2⟩⟩ := g
  refine ⟨⟨?_, ?_, ?_, okE_snoc a4 (okE_book hP (by omega) (by omega) (by omega) (by omega) (by omega) (by omega)), ?_, a6, a7, ?_⟩, gL_b rfl (Nat.ne_of_beq_eq_false rfl) (fun k hk ht => a1 ▸ ((a5 k hk).2.2.2.2.2.1 ht).2.2) l, ⟨eE1_b rfl e1 (Nat.le_refl _), e2, fun j hj h1 h2 p hp => by rw [hEnd_b hp rfl]; exact e3 j hj h1 h2 p hp⟩, fun p hp o ho hK => ?_, ⟨by omega, fun p hp => by rw [by_b hp rfl, due_b hp rfl]; exact r2 p hp⟩⟩
  · rw [flB_len (P := P) rfl]; omega
  · omega
  · omega
  · intro j hj
    obtain ⟨b1, b2, b3, b4, b5, b6, b7⟩ := a5 j hj
    exact ⟨by omega, b2, b3, b4, by omega, fun h => by have := b6 h; omega, b7⟩
  · intro i hi
    by_cases z : i = a
    · subst z; rw [va_up_self]; omega
    · rw [va_up_ne _ _ z]; exact a8 i hi
  · rw [gFe_b hp rfl]
    rw [fl_b hp rfl] at ho hK
    exact f p hp o ho hK
theorem G_later {k a b : Nat} (hP : P ≤ 8) (g : GT P cap X (n, ep, tx, bg, ba, ad, lc, de, mq, nx, la, en)) (hk : k < 32) (ht : tx k ≠ 0) (ha : a < 64) (hb : b < 2 ^ 31) (hr : 16 * n + 16 + sm (res tx de) 32 ≤ 16000) : GT P cap (X ++ [(P, 3, k, ep k - 1, a, b, 0, [])]) (n + 1, ep, tx, bg, ba, ad, va_up lc k (lc k + 1), de, mq, nx, la ++ [(tx k - 1, a, b)], en) := by
  obtain ⟨⟨a1, a2, a3, a4, a5, a6, a7, a8⟩, l, ⟨e1, e2, e3⟩, f, ⟨r1, r2⟩⟩ := g
  have hep := (a5 k hk).1
  refine ⟨⟨?_, ?_, ?_, okE_snoc a4 (okE_book hP (by omega) hk (by omega) (by omega) (by omega) (by omega)), ?_, a6, ?_, a8⟩, ?_, ⟨eE1_b rfl e1 (Nat.le_refl _), e2, fun j hj h1 h2 p hp => by rw [hEnd_b hp rfl]; exact e3 j hj h1 h2 p hp⟩, fun p hp o ho hK => ?_, ⟨by omega, fun p hp => by rw [by_b hp rfl, due_b hp rfl]; exact r2 p hp⟩⟩
  · rw [flB_len (P := P) rfl]; omega
  · omega
  · rw [List.length_append]; simp; omega
  · intro j hj
    obtain ⟨b1, b2, b3, b4, b5, b6, b7⟩ := a5 j hj
    refine ⟨by omega, b2, b3, b4, ?_, fun h => by have := b6 h; omega, ?_⟩
    · by_cases z : j = k
      · subst z; rw [va_up_self]; omega
      · rw [va_up_ne _ _ z]; omega
    · intro h
      rw [va_up_ne _ _ (by intro z; subst z; exact ht h)]
      exact b7 h
  · intro x hx
    rcases List.mem_append.mp hx with z | z
    · exact a7 x z
    · rw [List.mem_singleton.mp z]
      have := (a5 k hk).2.1
      exact ⟨by simp only; omega, ha, hb⟩
  · intro j hj hj0
    have h1 := l j hj hj0
    have h2 := ((a5 j hj).2.2.2.2.2.1 hj0).2.2
    rw [fl_snoc, if_pos rfl, drop_sn (by omega), latE_snoc, latT_snoc]
    by_cases z : j = k
    · subst z
      rw [if_pos rfl, if_pos ⟨rfl, rfl⟩, va_up_self, h1.1, h1.2, h1.1, List.length_append]
      exact ⟨rfl, rfl⟩
    · rw [if_neg (fun y => z (a6 j k hj hk (by simp only at y; omega) hj0)), if_neg (fun y => z y.2.symm), va_up_ne _ _ z, List.append_nil, List.append_nil]
      exact h1
  · rw [gFe_b hp rfl]
    rw [fl_b hp rfl] at ho hK
    exact f p hp o ho hK
theorem G_begin {k c : Nat} (hP : P ≤ 8) (g : GT P cap X (n, ep, tx, bg, ba, ad, lc, de, mq, nx, la, en)) (hk : k < 32) (he0 : ep k ≠ 0) (ht : tx k = 0) (hc : c ≤ 1000000) (hr : 16 * n + 16 + 48 + sm (res tx de) 32 ≤ 16000) : GT P cap (X ++ [(P, 1, k, ep k - 1, c, nx, 0, [])]) (n + 1, ep, va_up tx k (nx + 1), va_up bg k (c + 1), va_up ba k n, ad, lc, de, mq, nx + 1, la, va_up en nx 0) := by
  obtain ⟨⟨a1, a2, a3, a4, a5, a6, a7, a8⟩, l, ⟨e1, e2, e3⟩, f, ⟨r1, r2⟩⟩ := g
  have hep := (a5 k hk).1
  obtain ⟨k0, k1, k2, k3⟩ := (a5 k hk).2.2.2.2.2.2 ht
  have htne : ∀ j, j < 32 → j ≠ k → va_up tx k (nx + 1) j = tx j := fun j _ z => va_up_ne _ _ z
  have hsm := sm_diff (g := res tx de) (g' := res (va_up tx k (nx + 1)) de) (k := k) 32 (fun i hi z => by unfold res; rw [va_up_ne _ _ z]) hk
  have hrk : res tx de k = 0 := by unfold res; rw [if_pos ht]
  have hrk' : res (va_up tx k (nx + 1)) de k = 48 := by unfold res; rw [va_up_self, if_neg (by omega), if_pos k3]
  refine ⟨⟨?_, ?_, ?_, okE_snoc a4 (okE_book hP (by omega) hk (by omega) (by omega) (by omega) (by omega)), ?_, ?_, ?_, a8⟩, ?_, ⟨eE1_b rfl e1 (by omega), ?_, ?_⟩, fun p hp o ho hK => ?_, ⟨by omega, fun p hp => ?_⟩⟩
  · rw [flB_len (P := P) rfl]; omega
  · omega
  · omega
  · intro j hj
    obtain ⟨b1, b2, b3, b4, b5, b6, b7⟩ := a5 j hj
    by_cases z : j = k
    · subst z
      rw [va_up_self, va_up_self, va_up_self]
      exact ⟨by omega, by omega, b3, by omega, by omega, fun _ => ⟨he0, by omega, by omega⟩, fun y => absurd y (by omega)⟩
    · rw [va_up_ne _ _ z, va_up_ne _ _ z, va_up_ne _ _ z]
      exact ⟨by omega, by omega, b3, b4, by omega, fun y => by have := b6 y; omega, b7⟩
  · intro i j hi hj hij h0
    have hi' := (a5 i hi).2.1
    have hj' := (a5 j hj).2.1
    by_cases z : i = k
    · by_cases y : j = k
      · omega
      · subst z; rw [va_up_self, va_up_ne _ _ y] at hij; omega
    · by_cases y : j = k
      · subst y; rw [va_up_self, va_up_ne _ _ z] at hij; omega
      · rw [va_up_ne _ _ z, va_up_ne _ _ y] at hij
        rw [va_up_ne _ _ z] at h0
        exact a6 i j hi hj hij h0
  · intro x hx
    have := a7 x hx
    exact ⟨by omega, this.2⟩
  · intro j hj h0
    by_cases z : j = k
    · subst z
      rw [va_up_self, va_up_self, Nat.add_sub_cancel, latT_new (fun x hx => (a7 x hx).1), fl_snoc, if_pos rfl, drop_sn (by omega), List.drop_of_length_le (by omega), k2]
      exact ⟨rfl, rfl⟩
    · rw [va_up_ne _ _ z] at h0 ⊢
      rw [va_up_ne _ _ z]
      have h1 := l j hj h0
      have h2 := ((a5 j hj).2.2.2.2.2.1 h0).2.2
      rw [fl_snoc, if_pos rfl, drop_sn (by omega), latE_snoc, if_neg (fun y => absurd y.1 (Nat.ne_of_beq_eq_false rfl)), List.append_nil]
      exact h1
  · intro j hj h0
    by_cases z : j = k
    · subst z; rw [va_up_self, Nat.add_sub_cancel, va_up_self]
    · rw [va_up_ne _ _ z] at h0 ⊢
      have := (a5 j hj).2.1
      rw [va_up_ne _ _ (by omega)]
      exact e2 j hj h0
  · intro j hj h0 h1 p hp
    rw [hEnd_b hp rfl]
    by_cases z : j = k
    · subst z
      rw [va_up_self, Nat.add_sub_cancel]
      unfold hEnd
      rw [List.any_eq_false]
      intro x hx
      obtain ⟨hx1, hx2⟩ := fl_mem hx
      have := e1 x hx1 (by omega)
      unfold endOf
      intro y
      simp at y
      omega
    · rw [va_up_ne _ _ z] at h0 ⊢
      exact e3 j hj h0 h1 p hp
  · rw [gFe_b hp rfl]
    rw [fl_b hp rfl] at ho hK
    obtain ⟨t, t1, t2, t3, t4, t5⟩ := f p hp o ho hK
    refine ⟨t, t1, by omega, fun j hj hjt => ?_, fun hy => ?_, fun hy => ?_⟩
    · by_cases z : j = k
      · subst z; rw [va_up_self] at hjt; omega
      · rw [va_up_ne _ _ z] at hjt; exact t3 j hj hjt
    · rw [va_up_ne _ _ (by omega : t ≠ nx)]
      by_cases z : eY ((fl p X).getD o en0) = k
      · rw [z, va_up_self] at hy; omega
      · rw [va_up_ne _ _ z] at hy; exact t4 hy
    · rw [va_up_ne _ _ (by omega : t ≠ nx)]
      by_cases z : eY ((fl p X).getD o en0) = k
      · rw [z] at t5 ⊢; exact t5 (by omega)
      · rw [va_up_ne _ _ z] at hy; exact t5 hy
  · rw [by_b hp rfl, due_b hp rfl]
    have h1 := r2 p hp
    rw [cnt_same (f := dueE p X tx ad) (f' := dueE p X (va_up tx k (nx + 1)) ad)]
    · exact h1
    · intro i hi
      unfold dueE
      by_cases z : i = k
      · subst z; rw [k1, hasB_0 (by omega)]; rfl
      · rw [va_up_ne _ _ z]
theorem G_add {k p0 : Nat} (hP : P ≤ 8) (g : GT P cap X (n, ep, tx, bg, ba, ad, lc, de, mq, nx, la, en)) (hk : k < 32) (ht : tx k ≠ 0) (hd : de k = 0) (hp0 : p0 < P) (hb : hasB (ad k) p0 = false) (hr : 16 * n + 16 + sm (res tx de) 32 ≤ 16000) (hl : bytesP p0 X + 14 * (cnt (dueE p0 X tx ad) 32 + 1) ≤ cap) : GT P cap (X ++ [(P, 2, k, ep k - 1, p0, 0, 0, [])]) (n + 1, ep, tx, bg, ba, va_up ad k (ad k ||| (nI 1 <<< (nI p0 &&& 31))), lc, de, mq, nx, la, en) := by
  obtain ⟨⟨a1, a2, a3, a4, a5, a6, a7, a8⟩, l, ⟨e1, e2, e3⟩, f, ⟨r1, r2⟩⟩ := g
  have hep := (a5 k hk).1
  refine ⟨⟨?_, ?_, ?_, okE_snoc a4 (okE_book hP (by omega) hk (by omega) (by omega) (by omega) (by omega)), ?_, a6, a7, a8⟩, gL_b rfl (Nat.ne_of_beq_eq_false rfl) (fun k hk ht => a1 ▸ ((a5 k hk).2.2.2.2.2.1 ht).2.2) l, ⟨eE1_b rfl e1 (Nat.le_refl _), e2, fun j hj h1 h2 p hp => by rw [hEnd_b hp rfl]; exact e3 j hj h1 h2 p hp⟩, fun p hp o ho hK => ?_, ⟨by omega, fun p hp => ?_⟩⟩
  · rw [flB_len (P := P) rfl]; omega
  · omega
  · omega
  · intro j hj
    obtain ⟨b1, b2, b3, b4, b5, b6, b7⟩ := a5 j hj
    refine ⟨by omega, b2, b3, b4, by omega, fun h => by have := b6 h; omega, fun h => ?_⟩
    rw [va_up_ne _ _ (by intro z; subst z; exact ht h)]
    exact b7 h
  · rw [gFe_b hp rfl]
    rw [fl_b hp rfl] at ho hK
    obtain ⟨t, t1, t2, t3, t4, t5⟩ := f p hp o ho hK
    refine ⟨t, t1, t2, t3, fun hy => ?_, t5⟩
    have h4 := t4 hy
    refine ⟨h4.1, ?_, h4.2.2⟩
    by_cases z : eY ((fl p X).getD o en0) = k
    · have h5 := h4.2.1
      rw [z] at h5 ⊢
      rw [va_up_self, hasB_or _ (by omega) (by omega), h5, Bool.true_or]
    · rw [va_up_ne _ _ z]; exact h4.2.1
  · rw [by_b hp rfl, due_b hp rfl]
    have h1 := r2 p hp
    have h2 := cnt_diff (f := dueE p X tx ad) (f' := dueE p X tx (va_up ad k (ad k ||| (nI 1 <<< (nI p0 &&& 31))))) (k := k) (n := 32) (fun i hi z => by unfold dueE; rw [va_up_ne _ _ z]) hk
    have h3 : dueE p X tx (va_up ad k (ad k ||| (nI 1 <<< (nI p0 &&& 31)))) k = (dueE p X tx ad k || decide (p0 = p)) := by
      unfold dueE
      rw [va_up_self, hasB_or _ (by omega) (by omega), e3 k hk ht hd p hp]
      simp
    by_cases z : p0 = p
    · subst z
      have h4 : dueE p0 X tx ad k = false := by unfold dueE; rw [hb]; rfl
      rw [h3, h4] at h2
      simp at h2
      omega
    · rw [h3, decide_eq_false z, Bool.or_false] at h2
      omega
theorem G_decide {k c : Nat} (hP : P ≤ 8) (g : GT P cap X (n, ep, tx, bg, ba, ad, lc, de, mq, nx, la, en)) (hk : k < 32) (ht : tx k ≠ 0) (hd : de k = 0) (hc : c ≤ 1) : GT P cap (X ++ [(P, 4, k, ep k - 1, c, tx k - 1, 0, [])]) (n + 1, ep, tx, bg, ba, ad, lc, va_up de k (c + 1), mq, nx, la, en) := by
  obtain ⟨⟨a1, a2, a3, a4, a5, a6, a7, a8⟩, l, ⟨e1, e2, e3⟩, f, ⟨r1, r2⟩⟩ := g
  have hep := (a5 k hk).1
  have htx := (a5 k hk).2.1
  have hsm := sm_diff (g := res tx de) (g' := res tx (va_up de k (c + 1))) (k := k) 32 (fun i hi z => by unfold res; rw [va_up_ne _ _ z]) hk
  have hrk : res tx de k = 48 := by unfold res; rw [if_neg ht, if_pos hd]
  have hrk' : res tx (va_up de k (c + 1)) k = 32 := by unfold res; rw [va_up_self, if_neg ht, if_neg (by omega)]
  refine ⟨⟨?_, ?_, ?_, okE_snoc a4 (okE_book hP (by omega) hk (by omega) (by omega) (by omega) (by omega)), ?_, a6, a7, a8⟩, gL_b rfl (Nat.ne_of_beq_eq_false rfl) (fun k hk ht => a1 ▸ ((a5 k hk).2.2.2.2.2.1 ht).2.2) l, ⟨eE1_b rfl e1 (Nat.le_refl _), e2, ?_⟩, fun p hp o ho hK => ?_, ⟨by omega, fun p hp => by rw [by_b hp rfl, due_b hp rfl]; exact r2 p hp⟩⟩
  · rw [flB_len (P := P) rfl]; omega
  · omega
  · omega
  · intro j hj
    obtain ⟨b1, b2, b3, b4, b5, b6, b7⟩ := a5 j hj
    by_cases z : j = k
    · subst z
      rw [va_up_self]
      exact ⟨by omega, b2, by omega, b4, by omega, fun h => by have := b6 h; omega, fun h => absurd h ht⟩
    · rw [va_up_ne _ _ z]
      exact ⟨by omega, b2, b3, b4, by omega, fun h => by have := b6 h; omega, b7⟩
  · intro j hj h1 h2 p hp
    rw [hEnd_b hp rfl]
    by_cases z : j = k
    · subst z; rw [va_up_self] at h2; omega
    · rw [va_up_ne _ _ z] at h2; exact e3 j hj h1 h2 p hp
  · rw [gFe_b hp rfl]
    rw [fl_b hp rfl] at ho hK
    obtain ⟨t, t1, t2, t3, t4, t5⟩ := f p hp o ho hK
    refine ⟨t, t1, t2, t3, fun hy => ?_, t5⟩
    have h4 := t4 hy
    refine ⟨h4.1, h4.2.1, ?_⟩
    by_cases z : eY ((fl p X).getD o en0) = k
    · have h5 := e3 k hk ht hd p hp
      have h6 : tx k = t + 1 := z ▸ hy
      rw [h6, Nat.add_sub_cancel] at h5
      rw [h4.2.2, h5]
      rfl
    · rw [va_up_ne _ _ z]; exact h4.2.2
theorem G_done {k : Nat} (hP : P ≤ 8) (g : GT P cap X (n, ep, tx, bg, ba, ad, lc, de, mq, nx, la, en)) (hk : k < 32) (ht : tx k ≠ 0) (hd : de k ≠ 0) (hall : ∀ p, p < P → hasB (ad k) p = true → hEnd p X (tx k - 1) = true) (mq' : Nat → Nat) (hmq : ∀ i, i < 64 → mq' i ≤ 2 ^ 31) : GT P cap (X ++ [(P, 5, k, ep k - 1, 0, tx k - 1, 0, [])]) (n + 1, ep, va_up tx k 0, va_up bg k 0, ba, va_up ad k (nI 0), va_up lc k 0, va_up de k 0, mq', nx, la, va_up en (tx k - 1) (if de k = 2 then 1 else 2)) := by
  obtain ⟨⟨a1, a2, a3, a4, a5, a6, a7, a8⟩, l, ⟨e1, e2, e3⟩, f, ⟨r1, r2⟩⟩ := g
  have hep := (a5 k hk).1
  have htx := (a5 k hk).2.1
  have hsm := sm_diff (g := res tx de) (g' := res (va_up tx k 0) (va_up de k 0)) (k := k) 32 (fun i hi z => by unfold res; rw [va_up_ne _ _ z, va_up_ne _ _ z]) hk
  have hrk : res tx de k = 32 := by unfold res; rw [if_neg ht, if_neg hd]
  have hrk' : res (va_up tx k 0) (va_up de k 0) k = 0 := by unfold res; rw [va_up_self, if_pos rfl]
  refine ⟨⟨?_, ?_, ?_, okE_snoc a4 (okE_book hP (by omega) hk (by omega) (by omega) (by omega) (by omega)), ?_, ?_, a7, hmq⟩, ?_, ⟨eE1_b rfl e1 (Nat.le_refl _), ?_, ?_⟩, fun p hp o ho hK => ?_, ⟨by omega, fun p hp => ?_⟩⟩
  · rw [flB_len (P := P) rfl]; omega
  · omega
  · omega
  · intro j hj
    obtain ⟨b1, b2, b3, b4, b5, b6, b7⟩ := a5 j hj
    by_cases z : j = k
    · subst z
      simp only [va_up_self]
      exact ⟨by omega, by omega, by omega, by omega, by omega, fun h => absurd rfl h, fun _ => ⟨trivial, trivial, trivial, trivial⟩⟩
    · simp only [va_up_ne _ _ z]
      exact ⟨by omega, b2, b3, b4, by omega, fun h => by have := b6 h; omega, b7⟩
  · intro i j hi hj hij h0
    by_cases z : i = k
    · subst z; rw [va_up_self] at h0; omega
    · rw [va_up_ne _ _ z] at h0 hij
      by_cases y : j = k
      · subst y; rw [va_up_self] at hij; omega
      · rw [va_up_ne _ _ y] at hij
        exact a6 i j hi hj hij h0
  · intro j hj h0
    by_cases z : j = k
    · subst z; rw [va_up_self] at h0; omega
    · simp only [va_up_ne _ _ z] at h0 ⊢
      have h1 := l j hj h0
      have h2 := ((a5 j hj).2.2.2.2.2.1 h0).2.2
      rw [fl_snoc, if_pos rfl, drop_sn (by omega), latE_snoc, if_neg (fun y => absurd y.1 (Nat.ne_of_beq_eq_false rfl)), List.append_nil]
      exact h1
  · intro j hj h0
    by_cases z : j = k
    · subst z; rw [va_up_self] at h0; omega
    · rw [va_up_ne _ _ z] at h0 ⊢
      rw [va_up_ne _ _ (fun y => z (a6 j k hj hk (by omega) h0))]
      exact e2 j hj h0
  · intro j hj h0 h1 p hp
    rw [hEnd_b hp rfl]
    by_cases z : j = k
    · subst z; rw [va_up_self] at h0; omega
    · rw [va_up_ne _ _ z] at h0 h1 ⊢; exact e3 j hj h0 h1 p hp
  · rw [gFe_b hp rfl]
    rw [fl_b hp rfl] at ho hK
    obtain ⟨t, t1, t2, t3, t4, t5⟩ := f p hp o ho hK
    by_cases z : eY ((fl p X).getD o en0) = k
    · refine ⟨t, t1, t2, fun j hj hjt => ?_, fun hy => ?_, fun hy => ?_⟩
      · by_cases y : j = k
        · subst y; rw [va_up_self] at hjt; omega
        · rw [va_up_ne _ _ y] at hjt; exact t3 j hj hjt
      · rw [z, va_up_self] at hy; omega
      · by_cases x : tx k = t + 1
        · have h4 := t4 (by rw [z]; exact x)
          rw [z] at h4 ⊢
          have h5 := hall p hp h4.2.1
          rw [x, Nat.add_sub_cancel] at h5 ⊢
          rw [h4.2.2, h5, va_up_self]
          have := (a5 k hk).2.2.1
          refine ⟨by split <;> omega, ?_⟩
          rw [if_pos rfl]
          congr 1
          split <;> omega
        · rw [va_up_ne _ _ (by omega : t ≠ tx k - 1)]
          exact t5 (by rw [z]; exact x)
    · by_cases x : tx k = t + 1
      · exact absurd (t3 k hk x).symm z
      · refine ⟨t, t1, t2, fun j hj hjt => ?_, fun hy => ?_, fun hy => ?_⟩
        · by_cases y : j = k
          · subst y; rw [va_up_self] at hjt; omega
          · rw [va_up_ne _ _ y] at hjt; exact t3 j hj hjt
        · rw [va_up_ne _ _ (by omega : t ≠ tx k - 1)]
          simp only [va_up_ne _ _ z] at hy ⊢
          exact t4 hy
        · rw [va_up_ne _ _ (by omega : t ≠ tx k - 1)]
          rw [va_up_ne _ _ z] at hy
          exact t5 hy
  · rw [by_b hp rfl, due_b hp rfl]
    have h1 := r2 p hp
    rw [cnt_same (f := dueE p X tx ad) (f' := dueE p X (va_up tx k 0) (va_up ad k (nI 0)))]
    · exact h1
    · intro i hi
      unfold dueE
      by_cases z : i = k
      · subst z
        rw [va_up_self, va_up_self, hasB_0 (by omega)]
        cases y : hasB (ad i) p
        · rfl
        · rw [hall p hp y]; rfl
      · rw [va_up_ne _ _ z, va_up_ne _ _ z]
end LG
