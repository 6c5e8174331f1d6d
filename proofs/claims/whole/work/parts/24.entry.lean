/-! ENTRIES AND THEIR BYTES -/
/-- file, kind, key, epoch, a, b, of, payload -/
abbrev En : Type := Nat × Nat × Nat × Nat × Nat × Nat × Nat × List Nat
abbrev eF (e : En) : Nat := e.1
abbrev eK (e : En) : Nat := e.2.1
abbrev eY (e : En) : Nat := e.2.2.1
abbrev eE (e : En) : Nat := e.2.2.2.1
abbrev eA (e : En) : Nat := e.2.2.2.2.1
abbrev eB (e : En) : Nat := e.2.2.2.2.2.1
abbrev eO (e : En) : Nat := e.2.2.2.2.2.2.1
abbrev eP (e : En) : List Nat := e.2.2.2.2.2.2.2
def en0 : En := (0, 0, 0, 0, 0, 0, 0, [])
def bodyP (e : En) : List Nat := be 2 (nI (eB e)) ++ (be 1 (nI (eK e)) ++ (be 1 (nI (eY e)) ++ (be 2 (nI (eE e)) ++ (be 4 (nI (eA e)) ++ eP e))))
def encP (e : En) : List Nat := be 4 (sumI (bodyP e)) ++ bodyP e
def okP (e : En) : Prop := eK e ≤ 3 ∧ eY e < 32 ∧ eE e < 65536 ∧ eA e < 2 ^ 31 ∧ eB e = (eP e).length ∧ eB e ≤ 40 ∧ ∀ x ∈ eP e, x < 256
theorem encP_len {e : En} (h : okP e) : (encP e).length = 14 + eB e := by
  simp only [encP, bodyP, List.length_append, be_len]
  rw [h.2.2.2.2.1]
  omega
theorem encP_lt {e : En} (h : okP e) : ∀ x ∈ encP e, x < 256 := by
  intro x hx
  simp only [encP, bodyP, List.mem_append] at hx
  rcases hx with z | z | z | z | z | z | z
  · exact be_lt _ _ x z
  · exact be_lt _ _ x z
  · exact be_lt _ _ x z
  · exact be_lt _ _ x z
  · exact be_lt _ _ x z
  · exact be_lt _ _ x z
  · exact h.2.2.2.2.2.2 x z
theorem beN1 {n : Nat} (h : n < 256) : beN (be 1 (nI n)) = n := by
  simp [beN, be, pk_tn (n := n) (by omega)]
  omega
theorem beN2 {n : Nat} (h : n < 65536) : beN (be 2 (nI n)) = n := by
  simp [beN, be, pk_tn (n := n) (by omega)]
  omega
theorem beN4 {n : Nat} (h : n < 2 ^ 31) : beN (be 4 (nI n)) = n := by
  simp [beN, be, pk_tn (n := n) (by omega)]
  omega
theorem encP_f (e : En) : ((encP e).drop 4).take 2 = be 2 (nI (eB e)) ∧ ((encP e).drop 6).take 1 = be 1 (nI (eK e)) ∧ ((encP e).drop 7).take 1 = be 1 (nI (eY e)) ∧ ((encP e).drop 8).take 2 = be 2 (nI (eE e)) ∧ ((encP e).drop 10).take 4 = be 4 (nI (eA e)) ∧ (encP e).drop 14 = eP e := by
  refine ⟨?_, ?_, ?_, ?_, ?_, ?_⟩ <;> simp [encP, bodyP, be]
def off (es : List En) (o : Nat) : Nat := ((es.take o).flatMap encP).length
theorem off_0 (es : List En) : off es 0 = 0 := by simp [off]
theorem off_succ {es : List En} {o : Nat} (h : o < es.length) : off es (o + 1) = off es o + (encP (es.getD o en0)).length := by
  unfold off
  rw [List.take_succ, List.flatMap_append, List.length_append]
  simp [List.getD, List.getElem?_eq_getElem h]
theorem off_len (es : List En) : off es es.length = (es.flatMap encP).length := by simp [off]
theorem off_mono {es : List En} : ∀ {i j : Nat}, i ≤ j → j ≤ es.length → off es i ≤ off es j := by
  intro i j hij hj
  induction j with
  | zero => rw [show i = 0 by omega]; exact Nat.le_refl _
  | succ j ih =>
    by_cases e : i = j + 1
    · subst e; exact Nat.le_refl _
    · have := ih (by omega) (by omega)
      rw [off_succ (by omega)]
      omega
theorem drop_off {es : List En} {o : Nat} (tn : List Nat) (h : o < es.length) : (es.flatMap encP ++ tn).drop (off es o) = encP (es.getD o en0) ++ ((es.drop (o + 1)).flatMap encP ++ tn) := by
  have h1 : es.flatMap encP = (es.take o).flatMap encP ++ (es.drop o).flatMap encP := by rw [← List.flatMap_append, List.take_append_drop]
  rw [h1, List.append_assoc, off]
  rw [List.drop_left' rfl]
  rw [List.drop_eq_getElem_cons h, List.flatMap_cons]
  simp [List.getD, List.getElem?_eq_getElem h]
theorem take_field {es : List En} {o w n : Nat} (tn : List Nat) (h : o < es.length) (hw : w + n ≤ (encP (es.getD o en0)).length) : ((es.flatMap encP ++ tn).drop (off es o + w)).take n = ((encP (es.getD o en0)).drop w).take n := by
  rw [← List.drop_drop, drop_off tn h, List.drop_append_of_le_length (by omega), List.take_append_of_le_length (by rw [List.length_drop]; omega)]
theorem getD_mem {es : List En} {o : Nat} (h : o < es.length) : es.getD o en0 ∈ es := by
  simp only [List.getD, List.getElem?_eq_getElem h, Option.getD_some]
  exact List.getElem_mem _
/-- a partition: object L, its row L + 1, L + 2, its arrays behind it -/
def LogAt (h : ix_H) (L : Nat) (es : List En) (tn : List Nat) : Prop :=
  h.2.2 L = .inr (1, [.ref (L + 1), .ref (L + 3), .ref (L + 4), .ref (L + 5), .int (nI es.length)]) ∧
  RowAt h (L + 1) (L + 2) 4000 (es.flatMap encP ++ tn) ∧
  (∃ f, h.2.2 (L + 3) = .inl (.int, 285, .inl f) ∧ ∀ o, o < es.length → f o = nI (off es (o + 1))) ∧
  (∃ f, h.2.2 (L + 4) = .inl (.boolean, 285, .inl f)) ∧ (∃ f, h.2.2 (L + 5) = .inl (.int, 32, .inl f)) ∧ (∀ e ∈ es, okP e)
theorem len_off {es : List En} (hok : ∀ e ∈ es, okP e) : es.length * 14 ≤ (es.flatMap encP).length := by
  induction es with
  | nil => simp
  | cons a l ih =>
    have h1 := ih (fun e he => hok e (List.mem_cons_of_mem _ he))
    have h2 := encP_len (hok a List.mem_cons_self)
    simp only [List.flatMap_cons, List.length_append, List.length_cons]
    omega
theorem LogAt.len {h : ix_H} {L : Nat} {es : List En} {tn : List Nat} (hl : LogAt h L es tn) : es.length ≤ 285 ∧ (es.flatMap encP).length ≤ 4000 ∧ (es.flatMap encP).length + tn.length ≤ 4000 := by
  have h1 := len_off hl.2.2.2.2.2
  have h2 := hl.2.1.2.2.1
  rw [List.length_append] at h2
  omega
/-- the second of the stack, said otherwise -/
theorem gs_at_2 {S : ix_S} {d : Nat} {q : ix_M} {P : ix_O → Prop} {pc : Nat} {ls : ix_L} {st : List Value} {h : ix_H} {v : Value} {x : Int32} (y : Int32) (hy : x = y) (k : gs S d q (pc, ls, v :: .int y :: st, h) P) : gs S d q (pc, ls, v :: .int x :: st, h) P := hy ▸ k
