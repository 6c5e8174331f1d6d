/-! ENTRIES OF PARTITIONS KEEP WHAT HOLDS -/
section LH
variable {P cap : Nat} {X : List En} {n nx : Nat} {ep tx bg ba lc de mq en : Nat → Nat} {ad : Nat → Int32} {la : List (Nat × Nat × Nat)} {e : En}
theorem fate_snoc (l : List En) (e : En) (y : Nat) : fateFrom (l ++ [e]) y = match fateFrom l y with
    | some x => some x
    | none => if 2 ≤ eK e ∧ eY e = y then some (eK e) else none := by
  induction l with
  | nil => simp [fateFrom]
  | cons a l ih =>
    simp only [List.cons_append, fateFrom]
    split
    · rfl
    · exact ih
theorem fl_p (he : eF e < P) : fl P (X ++ [e]) = fl P X := by rw [fl_snoc, if_neg (by omega)]
theorem fl_q {p : Nat} (hp : p ≠ eF e) : fl p (X ++ [e]) = fl p X := by rw [fl_snoc, if_neg (by omega)]
theorem fl_s : fl (eF e) (X ++ [e]) = fl (eF e) X ++ [e] := by rw [fl_snoc, if_pos rfl]
theorem hEnd_s (p t : Nat) : hEnd p (X ++ [e]) t = (hEnd p X t || (decide (eF e = p) && endOf t e)) := by
  unfold hEnd
  rw [fl_snoc]
  by_cases z : eF e = p
  · rw [if_pos z, List.any_append, decide_eq_true z]
    simp
  · rw [if_neg z, decide_eq_false z]
    simp
theorem by_s (p : Nat) : bytesP p (X ++ [e]) = bytesP p X + (if eF e = p then (encP e).length else 0) := by
  unfold bytesP
  rw [fl_snoc]
  by_cases z : eF e = p
  · rw [if_pos z, if_pos z, List.flatMap_append, List.length_append]
    simp
  · rw [if_neg z, if_neg z]
    rfl
theorem getD_sn {l : List En} {o : Nat} (h : o < l.length) : (l ++ [e]).getD o en0 = l.getD o en0 := by
  simp [List.getD, List.getElem?_append_left h]
theorem getD_last (l : List En) : (l ++ [e]).getD l.length en0 = e := by simp [List.getD]
theorem gA_p (he : eF e < P) (hok : okE P e) (h : gA P X (n, ep, tx, bg, ba, ad, lc, de, mq, nx, la, en)) : gA P (X ++ [e]) (n, ep, tx, bg, ba, ad, lc, de, mq, nx, la, en) := by
  obtain ⟨a1, a2, a3, a4, a5⟩ := h
  exact ⟨by rw [fl_p he]; exact a1, a2, a3, okE_snoc a4 hok, a5⟩
theorem gL_p (he : eF e < P) (h : gL P X (n, ep, tx, bg, ba, ad, lc, de, mq, nx, la, en)) : gL P (X ++ [e]) (n, ep, tx, bg, ba, ad, lc, de, mq, nx, la, en) := by
  unfold gL at h ⊢
  simp only at h ⊢
  rw [fl_p he]
  exact h
theorem gFe_q {q o : Nat} (h : q ≠ eF e) : gFe q (X ++ [e]) tx ad de nx en o = gFe q X tx ad de nx en o := by unfold gFe hEnd; rw [fl_q h]
/-- a record: PLAIN, or PART of the key's transaction -/
theorem G_rec {k p num o : Nat} {pl : List Nat} (part : Bool) (hP : P ≤ 8) (g : GT P cap X (n, ep, tx, bg, ba, ad, lc, de, mq, nx, la, en)) (hk : k < 32) (hp : p < P) (hnum : num < 2 ^ 31) (hpl : pl.length ≤ 40) (hpb : ∀ x ∈ pl, x < 256) (ho : o = (if part then tx k else 0)) (hpt : part = true → tx k ≠ 0 ∧ de k = 0 ∧ hasB (ad k) p = true) (hl : bytesP p X + 14 + pl.length + 14 * cnt (dueE p X tx ad) 32 ≤ cap) : GT P cap (X ++ [(p, (if part then 1 else 0), k, ep k - 1, num, pl.length, o, pl)]) (n, ep, tx, bg, ba, ad, lc, de, mq, nx, la, en) := by
  obtain ⟨gA0, gL0, ⟨e1, e2, e3⟩, f, ⟨r1, r2⟩⟩ := g
  obtain ⟨a1, a2, a3, a4, a5, a6, a7, a8⟩ := id gA0
  have hep := (a5 k hk).1
  have htx := (a5 k hk).2.1
  have hok : okE P (p, (if part then 1 else 0), k, ep k - 1, num, pl.length, o, pl) := okE_part hP hp (by split <;> omega) hk (by omega) hnum hpl (by rw [ho]; split <;> omega) hpb
  have hK : eK ((p, (if part then 1 else 0), k, ep k - 1, num, pl.length, o, pl) : En) ≤ 1 := by show (if part then 1 else 0) ≤ 1; split <;> omega
  have hnE : ∀ t, endOf t (p, (if part then 1 else 0), k, ep k - 1, num, pl.length, o, pl) = false := by
    intro t
    unfold endOf
    rw [decide_eq_true hK]
    rfl
  have hh : ∀ q t, hEnd q (X ++ [(p, (if part then 1 else 0), k, ep k - 1, num, pl.length, o, pl)]) t = hEnd q X t := by
    intro q t
    rw [hEnd_s, hnE, Bool.and_false, Bool.or_false]
  have hbl := encP_len (hok.2.2.2 hp)
  generalize hE : ((p, (if part then 1 else 0), k, ep k - 1, num, pl.length, o, pl) : En) = E at *
  have hF : eF E = p := by rw [← hE]
  have hB : eB E = pl.length := by rw [← hE]
  refine ⟨gA_p (by omega) hok gA0, gL_p (by omega) gL0, ⟨?_, e2, fun j hj h1 h2 q hq => by rw [hh]; exact e3 j hj h1 h2 q hq⟩, fun q hq i hi hKi => ?_, ⟨r1, fun q hq => ?_⟩⟩
  · intro x hx h1 h2
    rcases List.mem_append.mp hx with z | z
    · exact e1 x z h1 h2
    · rw [List.mem_singleton.mp z] at h2; omega
  · by_cases z : q = p
    · subst z
      by_cases y : i < (fl q X).length
      · unfold gFe
        rw [fl_snoc, if_pos hF] at hi hKi ⊢
        rw [getD_sn y] at hKi ⊢
        rw [drop_sn (by omega)]
        obtain ⟨t, t1, t2, t3, t4, t5⟩ := f q hq i y hKi
        have hfs : fateFrom ((fl q X).drop i ++ [E]) (eY ((fl q X).getD i en0)) = fateFrom ((fl q X).drop i) (eY ((fl q X).getD i en0)) := by
          rw [fate_snoc]
          cases fateFrom ((fl q X).drop i) (eY ((fl q X).getD i en0)) with
          | none => simp only; rw [if_neg (by omega)]
          | some x => rfl
        refine ⟨t, t1, t2, t3, fun hy => ?_, fun hy => ?_⟩
        · rw [hh, hfs]; exact t4 hy
        · rw [hfs]; exact t5 hy
      · unfold gFe
        rw [fl_snoc, if_pos hF] at hi hKi ⊢
        rw [List.length_append] at hi
        have hil : i = (fl q X).length := by simp at hi; omega
        subst hil
        rw [getD_last] at hKi ⊢
        have hpt' : part = true := by
          cases part with
          | true => rfl
          | false => rw [← hE] at hKi; exact absurd hKi (Nat.ne_of_beq_eq_false rfl)
        obtain ⟨p1, p2, p3⟩ := hpt hpt'
        have hO : eO E = tx k := by rw [← hE]; show o = tx k; rw [ho, hpt']; rfl
        have hY : eY E = k := by rw [← hE]
        rw [drop_sn (Nat.le_refl _), List.drop_length, hO, hY]
        refine ⟨tx k - 1, by omega, by omega, fun j hj hjt => a6 j k hj hk (by omega) (by omega), fun hy => ?_, fun hy => absurd (by omega) hy⟩
        refine ⟨e2 k hk p1, p3, ?_⟩
        rw [hh, e3 k hk p1 p2 q hq]
        simp only [List.nil_append, fateFrom]
        rw [if_neg (by omega)]
        rfl
    · rw [gFe_q (by omega)]
      rw [fl_q (by omega)] at hi hKi
      exact f q hq i hi hKi
  · rw [by_s, hF, hbl, hB]
    have h1 := r2 q hq
    rw [cnt_same (f := dueE q X tx ad)]
    · by_cases z : p = q
      · subst z; rw [if_pos rfl]; omega
      · rw [if_neg z]; omega
    · intro i hi
      unfold dueE
      rw [hh]
/-- the end of a decided transaction in a partition -/
theorem G_end {k p : Nat} (hP : P ≤ 8) (g : GT P cap X (n, ep, tx, bg, ba, ad, lc, de, mq, nx, la, en)) (hk : k < 32) (hp : p < P) (ht : tx k ≠ 0) (hd : de k ≠ 0) (hb : hasB (ad k) p = true) (hne : hEnd p X (tx k - 1) = false) : GT P cap (X ++ [(p, 4 - de k, k, ep k - 1, tx k - 1, 0, 0, [])]) (n, ep, tx, bg, ba, ad, lc, de, mq, nx, la, en) := by
  obtain ⟨gA0, gL0, ⟨e1, e2, e3⟩, f, ⟨r1, r2⟩⟩ := g
  obtain ⟨a1, a2, a3, a4, a5, a6, a7, a8⟩ := id gA0
  obtain ⟨b1, b2, b3, -⟩ := a5 k hk
  have hok : okE P (p, 4 - de k, k, ep k - 1, tx k - 1, 0, 0, []) := okE_part (pl := []) hP hp (by omega) hk (by omega) (by omega) (by simp) (by omega) (by simp)
  have hnE : ∀ t, endOf t (p, 4 - de k, k, ep k - 1, tx k - 1, 0, 0, []) = decide (tx k - 1 = t) := by
    intro t
    unfold endOf
    rw [decide_eq_false (by show ¬ 4 - de k ≤ 1; omega)]
    rfl
  have hh : ∀ q t, hEnd q (X ++ [(p, 4 - de k, k, ep k - 1, tx k - 1, 0, 0, [])]) t = (hEnd q X t || (decide (p = q) && decide (tx k - 1 = t))) := by
    intro q t
    rw [hEnd_s, hnE]
  have hbl := encP_len (hok.2.2.2 hp)
  generalize hE : ((p, 4 - de k, k, ep k - 1, tx k - 1, 0, 0, []) : En) = E at *
  have hF : eF E = p := by rw [← hE]
  have hB : eB E = 0 := by rw [← hE]
  have hK : eK E = 4 - de k := by rw [← hE]
  have hY : eY E = k := by rw [← hE]
  have hA : eA E = tx k - 1 := by rw [← hE]
  refine ⟨gA_p (by omega) hok gA0, gL_p (by omega) gL0, ⟨?_, e2, fun j hj h1 h2 q hq => ?_⟩, fun q hq i hi hKi => ?_, ⟨r1, fun q hq => ?_⟩⟩
  · intro x hx h1 h2
    rcases List.mem_append.mp hx with z | z
    · exact e1 x z h1 h2
    · rw [List.mem_singleton.mp z]; omega
  · rw [hh, e3 j hj h1 h2 q hq, Bool.false_or]
    by_cases z : j = k
    · subst z; exact absurd h2 hd
    · rw [decide_eq_false (fun y : tx k - 1 = tx j - 1 => z (a6 j k hj hk (by omega) h1)), Bool.and_false]
  · by_cases z : q = p
    · subst z
      by_cases y : i < (fl q X).length
      · unfold gFe
        rw [fl_snoc, if_pos hF] at hi hKi ⊢
        rw [getD_sn y] at hKi ⊢
        rw [drop_sn (by omega)]
        obtain ⟨t, t1, t2, t3, t4, t5⟩ := f q hq i y hKi
        refine ⟨t, t1, t2, t3, fun hy => ?_, fun hy => ?_⟩
        · have h4 := t4 hy
          refine ⟨h4.1, h4.2.1, ?_⟩
          rw [hh, decide_eq_true rfl, Bool.true_and, fate_snoc, h4.2.2]
          by_cases x : eY ((fl q X).getD i en0) = k
          · rw [x] at hy ⊢
            have ht1 : tx k - 1 = t := by omega
            rw [← ht1, hne]
            simp only [Bool.false_or, decide_true, if_true]
            rw [if_neg (by simp)]
            simp only
            rw [if_pos ⟨by omega, hY⟩, hK]
          · rw [decide_eq_false (fun w : tx k - 1 = t => x (t3 k hk (by omega)).symm), Bool.or_false]
            cases hEnd q X t with
            | true => rfl
            | false =>
              rw [if_neg (by simp)]
              simp only
              rw [if_neg (fun w => x (by omega))]
        · have h5 := t5 hy
          refine ⟨h5.1, ?_⟩
          rw [fate_snoc, h5.2]
      · rw [fl_snoc, if_pos hF] at hi hKi
        rw [List.length_append] at hi
        have hil : i = (fl q X).length := by simp at hi; omega
        subst hil
        rw [getD_last] at hKi
        omega
    · rw [gFe_q (by omega)]
      rw [fl_q (by omega)] at hi hKi
      exact f q hq i hi hKi
  · rw [by_s, hF, hbl, hB]
    have h1 := r2 q hq
    by_cases z : p = q
    · subst z
      have h2 := cnt_diff (f := dueE p X tx ad) (f' := dueE p (X ++ [E]) tx ad) (k := k) (n := 32) (fun i hi z => by
        unfold dueE
        rw [hh, decide_eq_true rfl, Bool.true_and]
        by_cases y : tx k - 1 = tx i - 1
        · by_cases w : tx i = 0
          · have h0 := ((a5 i hi).2.2.2.2.2.2 w).2.1
            rw [h0, hasB_0 (by omega)]
            rfl
          · exact absurd (a6 i k hi hk (by omega) w) z
        · rw [decide_eq_false y, Bool.or_false]) hk
      have h3 : dueE p X tx ad k = true := by unfold dueE; rw [hb, hne]; rfl
      have h4 : dueE p (X ++ [E]) tx ad k = false := by unfold dueE; rw [hh, decide_eq_true rfl, decide_eq_true rfl, hb]; simp
      rw [h3, h4] at h2
      simp at h2
      rw [if_pos rfl]
      omega
    · rw [if_neg z, cnt_same (f := dueE q X tx ad)]
      · exact h1
      · intro i hi
        unfold dueE
        rw [hh, decide_eq_false z, Bool.false_and, Bool.or_false]
theorem G_nil {P : Nat} (cap : Nat) (hP : P ≤ 8) : GT P cap [] T0 := by
  refine ⟨⟨rfl, Nat.le_refl _, Nat.le_refl _, fun e he => absurd he List.not_mem_nil, ?_, ?_, ?_, ?_⟩, ?_, ⟨fun e he => absurd he List.not_mem_nil, ?_, ?_⟩, ?_, ⟨?_, ?_⟩⟩
  · intro k hk
    exact ⟨Nat.zero_le _, Nat.zero_le _, Nat.zero_le _, Nat.zero_le _, Nat.zero_le _, fun z => absurd rfl z, fun _ => ⟨rfl, rfl, rfl, rfl⟩⟩
  · intro k k' _ _ _ h
    exact absurd rfl h
  · intro x hx
    cases hx
  · intro i _
    exact Nat.zero_le _
  · intro k _ h
    exact absurd rfl h
  · intro k _ h
    exact absurd rfl h
  · intro k _ h
    exact absurd rfl h
  · intro p _ o ho
    exact absurd ho (by simp [fl])
  · decide +kernel
  · intro p hp
    have : cnt (dueE p [] (fun _ => 0) (fun _ => nI 0)) 32 = 0 := by
      have h1 : ∀ n, cnt (fun _ => false) n = 0 := by
        intro n
        induction n with
        | zero => rfl
        | succ n ih => simp [cnt, ih]
      rw [cnt_same (f := fun _ => false)]
      · exact h1 32
      · intro i _
        unfold dueE; rw [hasB_0 (by omega)]; rfl
    rw [this]
    simp [bytesP, fl]
theorem pv_nil {P : Nat} (cap : Nat) (hP : P ≤ 8) : pv P cap [] := by
  intro m _
  rw [List.take_nil]
  exact G_nil cap hP
end LH
/-! THE SAME FOR ALL FIRST PARTS -/
section PV
variable {P cap : Nat} {X : List En} {n nx : Nat} {ep tx bg ba lc de mq en : Nat → Nat} {ad : Nat → Int32} {la : List (Nat × Nat × Nat)} {k : Nat}
theorem pv_reg (hP : P ≤ 8) (hv : pv P cap X) (hT : told P X = (n, ep, tx, bg, ba, ad, lc, de, mq, nx, la, en)) (hk : k < 32) (ht : tx k = 0) (hr : 16 * n + 16 + sm (res tx de) 32 ≤ 16000) : pv P cap (X ++ [(P, 0, k, ep k, 0, 0, 0, [])]) ∧ told P (X ++ [(P, 0, k, ep k, 0, 0, 0, [])]) = (n + 1, va_up ep k (ep k + 1), tx, bg, ba, ad, lc, de, mq, nx, la, en) := by
  have hT' : told P (X ++ [(P, 0, k, ep k, 0, 0, 0, [])]) = (n + 1, va_up ep k (ep k + 1), tx, bg, ba, ad, lc, de, mq, nx, la, en) := by rw [told_snoc, if_pos rfl, hT]; rfl
  exact ⟨pv_snoc hv (by rw [hT']; exact G_reg hP (hT ▸ pv_all hv) hk ht hr), hT'⟩
theorem pv_mark {a b : Nat} (hP : P ≤ 8) (hv : pv P cap X) (hT : told P X = (n, ep, tx, bg, ba, ad, lc, de, mq, nx, la, en)) (ha : a < 64) (hb : b < 2 ^ 31) (hr : 16 * n + 16 + sm (res tx de) 32 ≤ 16000) : pv P cap (X ++ [(P, 6, 0, 0, a, b, 0, [])]) ∧ told P (X ++ [(P, 6, 0, 0, a, b, 0, [])]) = (n + 1, ep, tx, bg, ba, ad, lc, de, va_up mq a (b + 1), nx, la, en) := by
  have hT' : told P (X ++ [(P, 6, 0, 0, a, b, 0, [])]) = (n + 1, ep, tx, bg, ba, ad, lc, de, va_up mq a (b + 1), nx, la, en) := by rw [told_snoc, if_pos rfl, hT]; rfl
  exact ⟨pv_snoc hv (by rw [hT']; exact G_mark hP (hT ▸ pv_all hv) ha hb hr), hT'⟩
theorem pv_later {a b : Nat} (hP : P ≤ 8) (hv : pv P cap X) (hT : told P X = (n, ep, tx, bg, ba, ad, lc, de, mq, nx, la, en)) (hk : k < 32) (ht : tx k ≠ 0) (ha : a < 64) (hb : b < 2 ^ 31) (hr : 16 * n + 16 + sm (res tx de) 32 ≤ 16000) : pv P cap (X ++ [(P, 3, k, ep k - 1, a, b, 0, [])]) ∧ told P (X ++ [(P, 3, k, ep k - 1, a, b, 0, [])]) = (n + 1, ep, tx, bg, ba, ad, va_up lc k (lc k + 1), de, mq, nx, la ++ [(tx k - 1, a, b)], en) := by
  have hT' : told P (X ++ [(P, 3, k, ep k - 1, a, b, 0, [])]) = (n + 1, ep, tx, bg, ba, ad, va_up lc k (lc k + 1), de, mq, nx, la ++ [(tx k - 1, a, b)], en) := by rw [told_snoc, if_pos rfl, hT]; rfl
  exact ⟨pv_snoc hv (by rw [hT']; exact G_later hP (hT ▸ pv_all hv) hk ht ha hb hr), hT'⟩
theorem pv_begin {c : Nat} (hP : P ≤ 8) (hv : pv P cap X) (hT : told P X = (n, ep, tx, bg, ba, ad, lc, de, mq, nx, la, en)) (hk : k < 32) (he0 : ep k ≠ 0) (ht : tx k = 0) (hc : c ≤ 1000000) (hr : 16 * n + 16 + 48 + sm (res tx de) 32 ≤ 16000) : pv P cap (X ++ [(P, 1, k, ep k - 1, c, nx, 0, [])]) ∧ told P (X ++ [(P, 1, k, ep k - 1, c, nx, 0, [])]) = (n + 1, ep, va_up tx k (nx + 1), va_up bg k (c + 1), va_up ba k n, ad, lc, de, mq, nx + 1, la, va_up en nx 0) := by
  have hT' : told P (X ++ [(P, 1, k, ep k - 1, c, nx, 0, [])]) = (n + 1, ep, va_up tx k (nx + 1), va_up bg k (c + 1), va_up ba k n, ad, lc, de, mq, nx + 1, la, va_up en nx 0) := by rw [told_snoc, if_pos rfl, hT]; rfl
  exact ⟨pv_snoc hv (by rw [hT']; exact G_begin hP (hT ▸ pv_all hv) hk he0 ht hc hr), hT'⟩
theorem pv_add {p0 : Nat} (hP : P ≤ 8) (hv : pv P cap X) (hT : told P X = (n, ep, tx, bg, ba, ad, lc, de, mq, nx, la, en)) (hk : k < 32) (ht : tx k ≠ 0) (hd : de k = 0) (hp0 : p0 < P) (hb : hasB (ad k) p0 = false) (hr : 16 * n + 16 + sm (res tx de) 32 ≤ 16000) (hl : bytesP p0 X + 14 * (cnt (dueE p0 X tx ad) 32 + 1) ≤ cap) : pv P cap (X ++ [(P, 2, k, ep k - 1, p0, 0, 0, [])]) ∧ told P (X ++ [(P, 2, k, ep k - 1, p0, 0, 0, [])]) = (n + 1, ep, tx, bg, ba, va_up ad k (ad k ||| (nI 1 <<< (nI p0 &&& 31))), lc, de, mq, nx, la, en) := by
  have hT' : told P (X ++ [(P, 2, k, ep k - 1, p0, 0, 0, [])]) = (n + 1, ep, tx, bg, ba, va_up ad k (ad k ||| (nI 1 <<< (nI p0 &&& 31))), lc, de, mq, nx, la, en) := by rw [told_snoc, if_pos rfl, hT]; rfl
  exact ⟨pv_snoc hv (by rw [hT']; exact G_add hP (hT ▸ pv_all hv) hk ht hd hp0 hb hr hl), hT'⟩
theorem pv_decide {c : Nat} (hP : P ≤ 8) (hv : pv P cap X) (hT : told P X = (n, ep, tx, bg, ba, ad, lc, de, mq, nx, la, en)) (hk : k < 32) (ht : tx k ≠ 0) (hd : de k = 0) (hc : c ≤ 1) : pv P cap (X ++ [(P, 4, k, ep k - 1, c, tx k - 1, 0, [])]) ∧ told P (X ++ [(P, 4, k, ep k - 1, c, tx k - 1, 0, [])]) = (n + 1, ep, tx, bg, ba, ad, lc, va_up de k (c + 1), mq, nx, la, en) := by
  have hT' : told P (X ++ [(P, 4, k, ep k - 1, c, tx k - 1, 0, [])]) = (n + 1, ep, tx, bg, ba, ad, lc, va_up de k (c + 1), mq, nx, la, en) := by rw [told_snoc, if_pos rfl, hT]; rfl
  exact ⟨pv_snoc hv (by rw [hT']; exact G_decide hP (hT ▸ pv_all hv) hk ht hd hc), hT'⟩
theorem mkOf_le (t : Nat) {mq : Nat → Nat} {la : List (Nat × Nat × Nat)} (h : ∀ i, i < 64 → mq i ≤ 2 ^ 31) (hl : ∀ x ∈ la, x.2.2 < 2 ^ 31) : ∀ i, i < 64 → mkOf la t mq i ≤ 2 ^ 31 := by
  unfold mkOf
  induction la generalizing mq with
  | nil => exact h
  | cons a l ih =>
    simp only [List.foldl_cons]
    refine ih ?_ (fun x hx => hl x (List.mem_cons_of_mem _ hx))
    intro i hi
    split
    · by_cases z : i = a.2.1
      · subst z
        rw [va_up_self]
        have := hl a List.mem_cons_self
        omega
      · rw [va_up_ne _ _ z]; exact h i hi
    · exact h i hi
theorem pv_done (hP : P ≤ 8) (hv : pv P cap X) (hT : told P X = (n, ep, tx, bg, ba, ad, lc, de, mq, nx, la, en)) (hk : k < 32) (ht : tx k ≠ 0) (hd : de k ≠ 0) (hall : ∀ p, p < P → hasB (ad k) p = true → hEnd p X (tx k - 1) = true) : pv P cap (X ++ [(P, 5, k, ep k - 1, 0, tx k - 1, 0, [])]) ∧ told P (X ++ [(P, 5, k, ep k - 1, 0, tx k - 1, 0, [])]) = (n + 1, ep, va_up tx k 0, va_up bg k 0, ba, va_up ad k (nI 0), va_up lc k 0, va_up de k 0, (if de k = 2 then mkOf la (tx k - 1) mq else mq), nx, la, va_up en (tx k - 1) (if de k = 2 then 1 else 2)) := by
  have hT' : told P (X ++ [(P, 5, k, ep k - 1, 0, tx k - 1, 0, [])]) = (n + 1, ep, va_up tx k 0, va_up bg k 0, ba, va_up ad k (nI 0), va_up lc k 0, va_up de k 0, (if de k = 2 then mkOf la (tx k - 1) mq else mq), nx, la, va_up en (tx k - 1) (if de k = 2 then 1 else 2)) := by rw [told_snoc, if_pos rfl, hT]; rfl
  have hg : GT P cap X (n, ep, tx, bg, ba, ad, lc, de, mq, nx, la, en) := hT ▸ pv_all hv
  have hmq : ∀ i, i < 64 → (if de k = 2 then mkOf la (tx k - 1) mq else mq) i ≤ 2 ^ 31 := by
    obtain ⟨⟨a1, a2, a3, a4, a5, a6, a7, a8⟩, -⟩ := id hg
    split
    · exact mkOf_le _ a8 (fun x hx => (a7 x hx).2.2)
    · exact a8
  exact ⟨pv_snoc hv (by rw [hT']; exact G_done hP hg hk ht hd hall _ hmq), hT'⟩
theorem pv_end {p : Nat} (hP : P ≤ 8) (hv : pv P cap X) (hT : told P X = (n, ep, tx, bg, ba, ad, lc, de, mq, nx, la, en)) (hk : k < 32) (hp : p < P) (ht : tx k ≠ 0) (hd : de k ≠ 0) (hb : hasB (ad k) p = true) (hne : hEnd p X (tx k - 1) = false) : pv P cap (X ++ [(p, 4 - de k, k, ep k - 1, tx k - 1, 0, 0, [])]) ∧ told P (X ++ [(p, 4 - de k, k, ep k - 1, tx k - 1, 0, 0, [])]) = (n, ep, tx, bg, ba, ad, lc, de, mq, nx, la, en) := by
  have hT' : told P (X ++ [(p, 4 - de k, k, ep k - 1, tx k - 1, 0, 0, [])]) = (n, ep, tx, bg, ba, ad, lc, de, mq, nx, la, en) := by rw [told_snoc, if_neg (Nat.ne_of_lt hp), hT]
  exact ⟨pv_snoc hv (by rw [hT']; exact G_end hP (hT ▸ pv_all hv) hk hp ht hd hb hne), hT'⟩
theorem pv_rec {p num o : Nat} {pl : List Nat} (part : Bool) (hP : P ≤ 8) (hv : pv P cap X) (hT : told P X = (n, ep, tx, bg, ba, ad, lc, de, mq, nx, la, en)) (hk : k < 32) (hp : p < P) (hnum : num < 2 ^ 31) (hpl : pl.length ≤ 40) (hpb : ∀ x ∈ pl, x < 256) (ho : o = (if part then tx k else 0)) (hpt : part = true → tx k ≠ 0 ∧ de k = 0 ∧ hasB (ad k) p = true) (hl : bytesP p X + 14 + pl.length + 14 * cnt (dueE p X tx ad) 32 ≤ cap) : pv P cap (X ++ [(p, (if part then 1 else 0), k, ep k - 1, num, pl.length, o, pl)]) ∧ told P (X ++ [(p, (if part then 1 else 0), k, ep k - 1, num, pl.length, o, pl)]) = (n, ep, tx, bg, ba, ad, lc, de, mq, nx, la, en) := by
  have hT' : told P (X ++ [(p, (if part then 1 else 0), k, ep k - 1, num, pl.length, o, pl)]) = (n, ep, tx, bg, ba, ad, lc, de, mq, nx, la, en) := by rw [told_snoc, if_neg (Nat.ne_of_lt hp), hT]
  exact ⟨pv_snoc hv (by rw [hT']; exact G_rec part hP (hT ▸ pv_all hv) hk hp hnum hpl hpb ho hpt hl), hT'⟩
/-- the ends that still lack, j partitions from p on -/
def finR (E t K k : Nat) (m : Int32) : Nat → Nat → List En → List En
  | _, 0, Y => Y
  | p, j + 1, Y => finR E t K k m (p + 1) j (if (hasB m p && !hEnd p Y t) = true then Y ++ [(p, K, k, E, t, 0, 0, [])] else Y)
theorem finR_ok (hP : P ≤ 8) (hk : k < 32) (ht : tx k ≠ 0) (hd : de k ≠ 0) : ∀ (j p : Nat) (Y : List En), p + j ≤ P → pv P cap Y → told P Y = (n, ep, tx, bg, ba, ad, lc, de, mq, nx, la, en) → (∀ q, q < p → hasB (ad k) q = true → hEnd q Y (tx k - 1) = true) →
    pv P cap (finR (ep k - 1) (tx k - 1) (4 - de k) k (ad k) p j Y) ∧ told P (finR (ep k - 1) (tx k - 1) (4 - de k) k (ad k) p j Y) = (n, ep, tx, bg, ba, ad, lc, de, mq, nx, la, en) ∧ (∀ q, q < p + j → hasB (ad k) q = true → hEnd q (finR (ep k - 1) (tx k - 1) (4 - de k) k (ad k) p j Y) (tx k - 1) = true) := by
  intro j
  induction j with
  | zero =>
    intro p Y _ hv hT hq
    exact ⟨hv, hT, hq⟩
  | succ j ih =>
    intro p Y hp hv hT hq
    simp only [finR]
    rw [show p + (j + 1) = (p + 1) + j by omega]
    cases c : (hasB (ad k) p && !hEnd p Y (tx k - 1)) with
    | true =>
      rw [if_pos rfl]
      rw [Bool.and_eq_true] at c
      have c2 : hEnd p Y (tx k - 1) = false := by simpa using c.2
      have h1 := pv_end hP hv hT hk (by omega) ht hd c.1 c2
      refine ih (p + 1) _ (by omega) h1.1 h1.2 ?_
      intro q hq1 hb
      rw [hEnd_s]
      by_cases z : q = p
      · subst z
        have : (4 - de k) ≥ 2 := by
          have := ((hT ▸ pv_all hv : GT P cap Y (n, ep, tx, bg, ba, ad, lc, de, mq, nx, la, en)).1.2.2.2.2.1 k hk).2.2.1
          omega
        simp only [endOf]
        rw [decide_eq_false (show ¬ eK ((q, 4 - de k, k, ep k - 1, tx k - 1, 0, 0, []) : En) ≤ 1 by show ¬ 4 - de k ≤ 1; omega)]
        simp
      · rw [hq q (by omega) hb, Bool.true_or]
    | false =>
      rw [if_neg (by simp)]
      refine ih (p + 1) Y (by omega) hv hT ?_
      intro q hq1 hb
      by_cases z : q = p
      · subst z
        rw [hb] at c
        simpa using c
      · exact hq q (by omega) hb
end PV
/-! ONE AFTER ANOTHER, THE LOWEST TRANSACTION FIRST -/
section ORD
def fte (due : Nat → Bool) (tx : Nat → Nat) : Nat → Option Nat
  | 0 => none
  | j + 1 => if (due j && !decide (tx j = 0)) = true then (match fte due tx j with
    | none => some j
    | some f => if tx j < tx f then some j else some f) else fte due tx j
theorem fte_none {due : Nat → Bool} {tx : Nat → Nat} : ∀ j, (∀ k, k < j → due k = true → tx k = 0) → fte due tx j = none := by
  intro j
  induction j with
  | zero => intro _; rfl
  | succ j ih =>
    intro hh
    simp only [fte]
    rw [if_neg, ih (fun k hk => hh k (by omega))]
    intro z
    simp at z
    exact z.2 (hh j (by omega) z.1)
theorem fte_min {due : Nat → Bool} {tx : Nat → Nat} {k0 : Nat} (h1 : due k0 = true) (h2 : tx k0 ≠ 0) : ∀ j, k0 < j → (∀ k, k < j → due k = true → tx k ≠ 0 → k ≠ k0 → tx k0 < tx k) → fte due tx j = some k0 := by
  intro j
  induction j with
  | zero => intro h; omega
  | succ j ih =>
    intro hk hm
    simp only [fte]
    by_cases z : k0 = j
    · subst z
      rw [if_pos (by simp [h1, h2])]
      have hb : ∀ i, i ≤ k0 → (fte due tx i = none ∨ ∃ f, fte due tx i = some f ∧ f < k0 ∧ due f = true ∧ tx f ≠ 0) := by
        intro i
        induction i with
        | zero => intro _; exact Or.inl rfl
        | succ i ih2 =>
          intro hi
          have h3 := ih2 (by omega)
          simp only [fte]
          by_cases y : (due i && !decide (tx i = 0)) = true
          · rw [if_pos y]
            simp at y
            rcases h3 with h3 | ⟨f, h3, h4, h5, h6⟩
            · rw [h3]; exact Or.inr ⟨i, rfl, by omega, y.1, y.2⟩
            · rw [h3]
              simp only
              by_cases x : tx i < tx f
              · rw [if_pos x]; exact Or.inr ⟨i, rfl, by omega, y.1, y.2⟩
              · rw [if_neg x]; exact Or.inr ⟨f, rfl, h4, h5, h6⟩
          · rw [if_neg y]; exact h3
      rcases hb k0 (Nat.le_refl _) with h3 | ⟨f, h3, h4, h5, h6⟩
      · rw [h3]
      · rw [h3]
        simp only
        rw [if_pos (hm f (by omega) h5 h6 (by omega))]
    · rw [ih (by omega) (fun k hk => hm k (by omega))]
      by_cases y : (due j && !decide (tx j = 0)) = true
      · rw [if_pos y]
        simp at y
        have := hm j (by omega) y.1 y.2 (by omega)
        simp only
        rw [if_neg (by omega)]
      · rw [if_neg y]
variable (tx : List En → Nat → Nat) (due : List En → Nat → Bool) (step : List En → Nat → List En)
def inn (t : Nat) : Nat → Nat → List En → Nat × List En
  | _, 0, s => (0, s)
  | k, m + 1, s => if (decide (tx s k = t + 1) && due s k) = true then ((inn t (k + 1) m (step s k)).1 + 1, (inn t (k + 1) m (step s k)).2) else inn t (k + 1) m s
def outl : Nat → Nat → List En → Nat × List En
  | 0, _, s => (0, s)
  | m + 1, t, s => ((inn tx due step t 0 32 s).1 + (outl m (t + 1) (inn tx due step t 0 32 s).2).1, (outl m (t + 1) (inn tx due step t 0 32 s).2).2)
def ovr : Nat → List En → Nat × List En
  | 0, s => (0, s)
  | r + 1, s => match fte (due s) (tx s) 32 with
    | none => (0, s)
    | some k => ((ovr r (step s k)).1 + 1, (ovr r (step s k)).2)
theorem inn_none {t : Nat} {s : List En} : ∀ (m k : Nat), (∀ j, k ≤ j → j < k + m → tx s j = t + 1 → due s j = false) → inn tx due step t k m s = (0, s) := by
  intro m
  induction m with
  | zero => intro k _; rfl
  | succ m ih =>
    intro k hh
    simp only [inn]
    rw [if_neg, ih (k + 1) (fun j h1 h2 => hh j (by omega) (by omega))]
    intro z
    simp at z
    rw [hh k (by omega) (by omega) z.1] at z
    exact absurd z.2 (by simp)
theorem inn_one {t : Nat} {s : List En} {k0 : Nat} (h1 : tx s k0 = t + 1) (h2 : due s k0 = true) (hst : ∀ j, tx (step s k0) j = t + 1 → due (step s k0) j = false) : ∀ (m k : Nat), k ≤ k0 → k0 < k + m → (∀ j, k ≤ j → j < k + m → tx s j = t + 1 → j = k0) → inn tx due step t k m s = (1, step s k0) := by
  intro m
  induction m with
  | zero => intro k h3 h4; omega
  | succ m ih =>
    intro k h3 h4 hu
    simp only [inn]
    by_cases z : k = k0
    · subst z
      rw [if_pos (by simp [h1, h2]), inn_none tx due step m (k + 1) (fun j _ _ hj => hst j hj)]
    · rw [if_neg, ih (k + 1) (by omega) (by omega) (fun j h5 h6 => hu j (by omega) (by omega))]
      intro y
      simp at y
      exact z (hu k (by omega) (by omega) y.1)
/-- the reference's order is the order of the rounds -/
theorem out_ovr (Inv : List En → Prop) (nx : Nat)
    (hI : ∀ s, Inv s → (∀ k, k < 32 → tx s k ≤ nx) ∧ (∀ k k', k < 32 → k' < 32 → tx s k = tx s k' → tx s k ≠ 0 → k = k'))
    (hS : ∀ s k, Inv s → k < 32 → tx s k ≠ 0 → due s k = true → Inv (step s k) ∧ tx (step s k) = va_up (tx s) k 0 ∧ ∀ j, j ≠ k → due (step s k) j = due s j)
    (hO : ∀ s k, 32 ≤ k → tx s k = 0) :
    ∀ (m t : Nat) (s : List En) (F : Nat), t + m = nx → Inv s → (∀ k, k < 32 → tx s k ≠ 0 → due s k = true → t < tx s k) → cnt (fun k => !decide (tx s k = 0) && due s k) 32 ≤ F → outl tx due step m t s = ovr tx due step F s := by
  intro m
  induction m with
  | zero =>
    intro t s F htm hi hlow _
    have hn : ∀ k, k < 32 → due s k = true → tx s k = 0 := by
      intro k hk hd
      apply Classical.byContradiction
      intro h0
      have h1 := hlow k hk h0 hd
      have h2 := (hI s hi).1 k hk
      omega
    simp only [outl]
    cases F with
    | zero => rfl
    | succ F => simp only [ovr]; rw [fte_none 32 hn]
  | succ m ih =>
    intro t s F htm hi hlow hF
    simp only [outl]
    by_cases hex : ∃ k0, k0 < 32 ∧ tx s k0 = t + 1 ∧ due s k0 = true
    · obtain ⟨k0, hk0, h1, h2⟩ := hex
      obtain ⟨s1, s2, s3⟩ := hS s k0 hi hk0 (by omega) h2
      have hu : ∀ j, tx s j = t + 1 → j = k0 := by
        intro j hj
        by_cases z : j < 32
        · exact (hI s hi).2 j k0 z hk0 (by omega) (by omega)
        · have := hO s j (by omega); omega
      rw [inn_one tx due step h1 h2 (fun j hj => by
        rw [s2] at hj
        by_cases z : j = k0
        · subst z; rw [va_up_self] at hj; omega
        · rw [va_up_ne _ _ z] at hj; exact absurd (hu j hj) z) 32 0 (by omega) (by omega) (fun j _ _ hj => hu j hj)]
      have hc := cnt_diff (f := fun k => !decide (tx s k = 0) && due s k) (f' := fun k => !decide (tx (step s k0) k = 0) && due (step s k0) k) (k := k0) (n := 32) (fun i _ z => by rw [s2, va_up_ne _ _ z, s3 i z]) hk0
      rw [s2, va_up_self, h1, h2] at hc
      simp at hc
      have hF1 : 1 ≤ F := by omega
      obtain ⟨G, rfl⟩ : ∃ G, F = G + 1 := ⟨F - 1, by omega⟩
      simp only [ovr]
      rw [fte_min h2 (by omega) 32 hk0 (fun k hk hd h0 hne => by
        have h5 := hlow k hk h0 hd
        have h6 : tx s k ≠ t + 1 := fun z => hne (hu k z)
        omega)]
      simp only
      rw [ih (t + 1) (step s k0) G (by omega) s1 (fun k hk h0 hd => by
        rw [s2] at h0 ⊢
        by_cases z : k = k0
        · subst z; rw [va_up_self] at h0; omega
        · rw [va_up_ne _ _ z] at h0 ⊢
          rw [s3 k z] at hd
          have h5 := hlow k hk h0 hd
          have h6 : tx s k ≠ t + 1 := fun y => z (hu k y)
          omega) (by rw [s2]; omega)]
      rw [Nat.add_comm]
    · rw [inn_none tx due step 32 0 (fun j _ hj hjt => by
        cases hd : due s j with
        | false => rfl
        | true => exact absurd ⟨j, by omega, hjt, hd⟩ hex)]
      simp only
      rw [Nat.zero_add, ih (t + 1) s F (by omega) hi (fun k hk h0 hd => by
        have h5 := hlow k hk h0 hd
        have h6 : tx s k ≠ t + 1 := fun y => hex ⟨k, hk, y, hd⟩
        omega) hF]
end ORD
/-! STEPS OF SEVERAL ENTRIES -/
def decX (P : Nat) (X : List En) (k c : Nat) : List En := X ++ [(P, 4, k, (told P X).2.1 k - 1, c, (told P X).2.2.1 k - 1, 0, [])]
def finX (P : Nat) (X : List En) (k : Nat) : List En := finR ((told P X).2.1 k - 1) ((told P X).2.2.1 k - 1) (4 - (told P X).2.2.2.2.2.2.2.1 k) k ((told P X).2.2.2.2.2.1 k) 0 P X ++ [(P, 5, k, (told P X).2.1 k - 1, 0, (told P X).2.2.1 k - 1, 0, [])]
def regX (P : Nat) (X : List En) (k : Nat) : List En := X ++ [(P, 0, k, (told P X).2.1 k, 0, 0, 0, [])]
section ST
variable {P cap : Nat} {X : List En} {n nx : Nat} {ep tx bg ba lc de mq en : Nat → Nat} {ad : Nat → Int32} {la : List (Nat × Nat × Nat)} {k : Nat}
theorem fin_ok (hP : P ≤ 8) (hv : pv P cap X) (hT : told P X = (n, ep, tx, bg, ba, ad, lc, de, mq, nx, la, en)) (hk : k < 32) (ht : tx k ≠ 0) (hd : de k ≠ 0) : pv P cap (finX P X k) ∧ told P (finX P X k) = (n + 1, ep, va_up tx k 0, va_up bg k 0, ba, va_up ad k (nI 0), va_up lc k 0, va_up de k 0, (if de k = 2 then mkOf la (tx k - 1) mq else mq), nx, la, va_up en (tx k - 1) (if de k = 2 then 1 else 2)) := by
  unfold finX
  rw [hT]
  obtain ⟨h1, h2, h3⟩ := finR_ok (cap := cap) hP hk ht hd P 0 X (by omega) hv hT (fun q hq => absurd hq (by omega))
  exact pv_done hP h1 h2 hk ht hd (fun p hp => h3 p (by omega))
theorem end_ok {c : Nat} (hc : c ≤ 1) (hP : P ≤ 8) (hv : pv P cap X) (hT : told P X = (n, ep, tx, bg, ba, ad, lc, de, mq, nx, la, en)) (hk : k < 32) (ht : tx k ≠ 0) (hd : de k = 0) : pv P cap (finX P (decX P X k c) k) ∧ told P (finX P (decX P X k c) k) = (n + 2, ep, va_up tx k 0, va_up bg k 0, ba, va_up ad k (nI 0), va_up lc k 0, de, (if c = 1 then mkOf la (tx k - 1) mq else mq), nx, la, va_up en (tx k - 1) (if c = 1 then 1 else 2)) ∧ 16 * (n + 2) + 16 + sm (res (va_up tx k 0) de) 32 ≤ 16000 := by
  have hdk : va_up (va_up de k (c + 1)) k 0 = de := by
    funext j
    by_cases z : j = k
    · subst z; rw [va_up_self, hd]
    · rw [va_up_ne _ _ z, va_up_ne _ _ z]
  have h1 := pv_decide hP hv hT hk ht hd hc
  have h2 : decX P X k c = X ++ [(P, 4, k, ep k - 1, c, tx k - 1, 0, [])] := by unfold decX; rw [hT]
  rw [← h2] at h1
  have h3 := fin_ok hP h1.1 h1.2 hk ht (by rw [va_up_self]; omega)
  rw [va_up_self, hdk] at h3
  have e1 : (c + 1 = 2) = (c = 1) := by simp
  simp only [e1] at h3
  refine ⟨h3.1, h3.2, ?_⟩
  have hg : GT P cap X (n, ep, tx, bg, ba, ad, lc, de, mq, nx, la, en) := hT ▸ pv_all hv
  have hr := hg.2.2.2.2.1
  have hs := sm_diff (g := res tx de) (g' := res (va_up tx k 0) de) (k := k) 32 (fun i _ z => by unfold res; rw [va_up_ne _ _ z]) hk
  have q1 : res tx de k = 48 := by unfold res; rw [if_neg ht, if_pos hd]
  have q2 : res (va_up tx k 0) de k = 0 := by unfold res; rw [va_up_self, if_pos rfl]
  omega
end ST
/-! TICKS AND OPENINGS, PURE -/
section TK
variable {P cap tmo clk : Nat} {X : List En} {n nx : Nat} {ep tx bg ba lc de mq en : Nat → Nat} {ad : Nat → Int32} {la : List (Nat × Nat × Nat)} {k : Nat}
theorem told_ex (P : Nat) (X : List En) : ∃ n ep tx bg ba ad lc de mq nx la en, told P X = ((n, ep, tx, bg, ba, ad, lc, de, mq, nx, la, en) : TS) := ⟨_, _, _, _, _, _, _, _, _, _, _, _, rfl⟩
def txF (P : Nat) (s : List En) (k : Nat) : Nat := if k < 32 then (told P s).2.2.1 k else 0
def dueT (P tmo clk : Nat) (s : List En) (k : Nat) : Bool := decide (tmo + (told P s).2.2.2.1 k < clk + 1)
def dueD (P : Nat) (s : List En) (k : Nat) : Bool := !decide ((told P s).2.2.2.2.2.2.2.1 k = 0)
def stepT (P : Nat) (s : List En) (k : Nat) : List En := regX P (finX P (decX P s k 0) k) k
def noDec (P : Nat) (s : List En) : Prop := ∀ k, k < 32 → (told P s).2.2.2.2.2.2.2.1 k = 0
theorem stepT_ok (hP : P ≤ 8) (hv : pv P cap X) (hT : told P X = (n, ep, tx, bg, ba, ad, lc, de, mq, nx, la, en)) (hk : k < 32) (ht : tx k ≠ 0) (hd : de k = 0) : pv P cap (stepT P X k) ∧ told P (stepT P X k) = (n + 3, va_up ep k (ep k + 1), va_up tx k 0, va_up bg k 0, ba, va_up ad k (nI 0), va_up lc k 0, de, mq, nx, la, va_up en (tx k - 1) 2) := by
  obtain ⟨h1, h2, h3⟩ := end_ok (c := 0) (by omega) hP hv hT hk ht hd
  simp only [show ¬ ((0 : Nat) = 1) by omega, if_false] at h2
  have h4 := pv_reg hP h1 h2 hk (va_up_self _ _ _) h3
  unfold stepT
  have h5 : regX P (finX P (decX P X k 0) k) k = finX P (decX P X k 0) k ++ [(P, 0, k, ep k, 0, 0, 0, [])] := by unfold regX; rw [h2]
  rw [h5]
  exact h4
theorem txF_up {s s' : List En} {k : Nat} (hk : k < 32) (h : (told P s').2.2.1 = va_up (told P s).2.2.1 k 0) : txF P s' = va_up (txF P s) k 0 := by
  funext j
  unfold txF
  rw [h]
  by_cases z : j = k
  · subst z; rw [va_up_self, va_up_self, ite_self]
  · rw [va_up_ne _ _ z, va_up_ne _ _ z]
theorem tick_eq (hP : P ≤ 8) (hv : pv P cap X) (hn : noDec P X) : outl (txF P) (dueT P tmo clk) (stepT P) (told P X).2.2.2.2.2.2.2.2.2.1 0 X = ovr (txF P) (dueT P tmo clk) (stepT P) 32 X := by
  refine out_ovr (txF P) (dueT P tmo clk) (stepT P) (fun s => pv P cap s ∧ noDec P s ∧ (told P s).2.2.2.2.2.2.2.2.2.1 = (told P X).2.2.2.2.2.2.2.2.2.1) (told P X).2.2.2.2.2.2.2.2.2.1 ?_ ?_ ?_ _ 0 X 32 (by omega) ⟨hv, hn, rfl⟩ ?_ (cnt_le _ _)
  · rintro s ⟨h1, h2, h3⟩
    obtain ⟨n, ep, tx, bg, ba, ad, lc, de, mq, nx, la, en, hT⟩ := told_ex P s
    have hg : GT P cap s (n, ep, tx, bg, ba, ad, lc, de, mq, nx, la, en) := hT ▸ pv_all h1
    rw [hT] at h3
    rw [← h3]
    refine ⟨fun k hk => ?_, fun k k' hk hk' => ?_⟩
    · unfold txF; rw [if_pos hk, hT]; exact (hg.1.2.2.2.2.1 k hk).2.1
    · unfold txF; rw [if_pos hk, if_pos hk', hT]; exact hg.1.2.2.2.2.2.1 k k' hk hk'
  · rintro s k ⟨h1, h2, h3⟩ hk ht hd
    unfold txF at ht
    rw [if_pos hk] at ht
    obtain ⟨n, ep, tx, bg, ba, ad, lc, de, mq, nx, la, en, hT⟩ := told_ex P s
    unfold noDec at h2
    rw [hT] at h2 h3 ht
    obtain ⟨h4, h5⟩ := stepT_ok hP h1 hT hk ht (h2 k hk)
    refine ⟨⟨h4, ?_, by rw [h5]; exact h3⟩, txF_up hk (by rw [h5, hT]), fun j hj => ?_⟩
    · unfold noDec; rw [h5]; exact h2
    · unfold dueT
      rw [h5, hT]
      simp only [va_up_ne _ _ hj]
  · intro s k hk
    unfold txF
    rw [if_neg (by omega)]
  · intro k hk h0 _
    omega
theorem open_eq (hP : P ≤ 8) (hv : pv P cap X) : outl (txF P) (dueD P) (finX P) (told P X).2.2.2.2.2.2.2.2.2.1 0 X = ovr (txF P) (dueD P) (finX P) 32 X := by
  refine out_ovr (txF P) (dueD P) (finX P) (fun s => pv P cap s ∧ (told P s).2.2.2.2.2.2.2.2.2.1 = (told P X).2.2.2.2.2.2.2.2.2.1) (told P X).2.2.2.2.2.2.2.2.2.1 ?_ ?_ ?_ _ 0 X 32 (by omega) ⟨hv, rfl⟩ ?_ (cnt_le _ _)
  · rintro s ⟨h1, h3⟩
    obtain ⟨n, ep, tx, bg, ba, ad, lc, de, mq, nx, la, en, hT⟩ := told_ex P s
    have hg : GT P cap s (n, ep, tx, bg, ba, ad, lc, de, mq, nx, la, en) := hT ▸ pv_all h1
    rw [hT] at h3
    rw [← h3]
    refine ⟨fun k hk => ?_, fun k k' hk hk' => ?_⟩
    · unfold txF; rw [if_pos hk, hT]; exact (hg.1.2.2.2.2.1 k hk).2.1
    · unfold txF; rw [if_pos hk, if_pos hk', hT]; exact hg.1.2.2.2.2.2.1 k k' hk hk'
  · rintro s k ⟨h1, h3⟩ hk ht hd
    unfold txF at ht
    rw [if_pos hk] at ht
    unfold dueD at hd
    obtain ⟨n, ep, tx, bg, ba, ad, lc, de, mq, nx, la, en, hT⟩ := told_ex P s
    rw [hT] at h3 ht hd
    obtain ⟨h4, h5⟩ := fin_ok hP h1 hT hk ht (by simpa using hd)
    refine ⟨⟨h4, by rw [h5]; exact h3⟩, txF_up hk (by rw [h5, hT]), fun j hj => ?_⟩
    unfold dueD
    rw [h5, hT]
    simp only [va_up_ne _ _ hj]
  · intro s k hk
    unfold txF
    rw [if_neg (by omega)]
  · intro k hk h0 _
    omega
theorem ovrT_ok (hP : P ≤ 8) : ∀ (r : Nat) (X : List En), pv P cap X → noDec P X → pv P cap (ovr (txF P) (dueT P tmo clk) (stepT P) r X).2 ∧ noDec P (ovr (txF P) (dueT P tmo clk) (stepT P) r X).2 ∧ (ovr (txF P) (dueT P tmo clk) (stepT P) r X).1 ≤ r := by
  intro r
  induction r with
  | zero => intro X hv hn; exact ⟨hv, hn, Nat.le_refl _⟩
  | succ r ih =>
    intro X hv hn
    simp only [ovr]
    cases hf : fte (dueT P tmo clk X) (txF P X) 32 with
    | none => exact ⟨hv, hn, Nat.zero_le _⟩
    | some k =>
      have h1 : k < 32 ∧ txF P X k ≠ 0 := by
        have hb : ∀ j, (fte (dueT P tmo clk X) (txF P X) j = none ∨ ∃ f, fte (dueT P tmo clk X) (txF P X) j = some f ∧ f < j ∧ txF P X f ≠ 0) := by
          intro j
          induction j with
          | zero => exact Or.inl rfl
          | succ j ih2 =>
            simp only [fte]
            by_cases y : (dueT P tmo clk X j && !decide (txF P X j = 0)) = true
            · rw [if_pos y]
              simp at y
              rcases ih2 with h3 | ⟨f, h3, h4, h6⟩
              · rw [h3]; exact Or.inr ⟨j, rfl, by omega, y.2⟩
              · rw [h3]
                simp only
                by_cases x : txF P X j < txF P X f
                · rw [if_pos x]; exact Or.inr ⟨j, rfl, by omega, y.2⟩
                · rw [if_neg x]; exact Or.inr ⟨f, rfl, by omega, h6⟩
            · rw [if_neg y]
              rcases ih2 with h3 | ⟨f, h3, h4, h6⟩
              · exact Or.inl h3
              · exact Or.inr ⟨f, h3, by omega, h6⟩
        rcases hb 32 with h3 | ⟨f, h3, h4, h6⟩
        · rw [h3] at hf; cases hf
        · rw [h3] at hf; cases hf; exact ⟨h4, h6⟩
      obtain ⟨hk, ht⟩ := h1
      unfold txF at ht
      rw [if_pos hk] at ht
      obtain ⟨n, ep, tx, bg, ba, ad, lc, de, mq, nx, la, en, hT⟩ := told_ex P X
      have hn0 := hn
      unfold noDec at hn
      rw [hT] at hn ht
      obtain ⟨h4, h5⟩ := stepT_ok hP hv hT hk ht (hn k hk)
      have h6 := ih (stepT P X k) h4 (by unfold noDec; rw [h5]; exact hn)
      exact ⟨h6.1, h6.2.1, Nat.succ_le_succ h6.2.2⟩
/-- after an opening nothing is left that was decided -/
theorem ovrD_ok (hP : P ≤ 8) : ∀ (r : Nat) (X : List En), pv P cap X → (cnt (fun k => dueD P X k) 32 ≤ r) → pv P cap (ovr (txF P) (dueD P) (finX P) r X).2 ∧ noDec P (ovr (txF P) (dueD P) (finX P) r X).2 ∧ (ovr (txF P) (dueD P) (finX P) r X).1 ≤ r := by
  have key : ∀ (X : List En) (k : Nat), pv P cap X → k < 32 → dueD P X k = true → (told P X).2.2.1 k ≠ 0 := by
    intro X k hv hk hd
    obtain ⟨n, ep, tx, bg, ba, ad, lc, de, mq, nx, la, en, hT⟩ := told_ex P X
    have hg : GT P cap X (n, ep, tx, bg, ba, ad, lc, de, mq, nx, la, en) := hT ▸ pv_all hv
    unfold dueD at hd
    rw [hT] at hd ⊢
    intro z
    have := ((hg.1.2.2.2.2.1 k hk).2.2.2.2.2.2 z).2.2.2
    simp [this] at hd
  intro r
  induction r with
  | zero =>
    intro X hv hc
    refine ⟨hv, ?_, Nat.le_refl _⟩
    intro k hk
    have h1 := cnt_diff (f := fun k => dueD P X k) (f' := fun i => if i = k then false else dueD P X i) (k := k) (n := 32) (fun i _ z => by simp [z]) hk
    simp only [ovr]
    apply Classical.byContradiction
    intro z
    have h2 : dueD P X k = true := by unfold dueD; simp [z]
    rw [h2] at h1
    simp at h1
    omega
  | succ r ih =>
    intro X hv hc
    simp only [ovr]
    cases hf : fte (dueD P X) (txF P X) 32 with
    | none =>
      refine ⟨hv, ?_, Nat.zero_le _⟩
      intro k hk
      apply Classical.byContradiction
      intro z
      have h2 : dueD P X k = true := by unfold dueD; simp [z]
      have h3 := key X k hv hk h2
      have hb : ∀ j, k < j → fte (dueD P X) (txF P X) j ≠ none := by
        intro j
        induction j with
        | zero => intro h; omega
        | succ j ih2 =>
          intro hj
          simp only [fte]
          by_cases y : (dueD P X j && !decide (txF P X j = 0)) = true
          · rw [if_pos y]
            cases fte (dueD P X) (txF P X) j with
            | none => simp
            | some f => simp only; split <;> simp
          · rw [if_neg y]
            by_cases x : k = j
            · subst x
              exfalso
              apply y
              rw [h2]
              unfold txF
              rw [if_pos hk]
              simp [h3]
            · exact ih2 (by omega)
      exact hb 32 hk hf
    | some k =>
      have h1 : k < 32 ∧ dueD P X k = true := by
        have hb : ∀ j, (fte (dueD P X) (txF P X) j = none ∨ ∃ f, fte (dueD P X) (txF P X) j = some f ∧ f < j ∧ dueD P X f = true) := by
          intro j
          induction j with
          | zero => exact Or.inl rfl
          | succ j ih2 =>
            simp only [fte]
            by_cases y : (dueD P X j && !decide (txF P X j = 0)) = true
            · rw [if_pos y]
              simp at y
              rcases ih2 with h3 | ⟨f, h3, h4, h6⟩
              · rw [h3]; exact Or.inr ⟨j, rfl, by omega, y.1⟩
              · rw [h3]
                simp only
                by_cases x : txF P X j < txF P X f
                · rw [if_pos x]; exact Or.inr ⟨j, rfl, by omega, y.1⟩
                · rw [if_neg x]; exact Or.inr ⟨f, rfl, by omega, h6⟩
            · rw [if_neg y]
              rcases ih2 with h3 | ⟨f, h3, h4, h6⟩
              · exact Or.inl h3
              · exact Or.inr ⟨f, h3, by omega, h6⟩
        rcases hb 32 with h3 | ⟨f, h3, h4, h6⟩
        · rw [h3] at hf; cases hf
        · rw [h3] at hf; cases hf; exact ⟨h4, h6⟩
      obtain ⟨hk, hd⟩ := h1
      have ht := key X k hv hk hd
      have hd0 := hd
      obtain ⟨n, ep, tx, bg, ba, ad, lc, de, mq, nx, la, en, hT⟩ := told_ex P X
      unfold dueD at hd
      rw [hT] at hd ht
      obtain ⟨h4, h5⟩ := fin_ok hP hv hT hk ht (by simpa using hd)
      have hcd := cnt_diff (f := fun k => dueD P X k) (f' := fun i => dueD P (finX P X k) i) (k := k) (n := 32) (fun i _ z => by unfold dueD; rw [h5, hT]; simp only [va_up_ne _ _ z]) hk
      rw [hd0] at hcd
      have hk0 : dueD P (finX P X k) k = false := by unfold dueD; rw [h5]; simp [va_up_self]
      rw [hk0] at hcd
      simp at hcd
      have h6 := ih (finX P X k) h4 (by omega)
      exact ⟨h6.1, h6.2.1, Nat.succ_le_succ h6.2.2⟩
end TK
