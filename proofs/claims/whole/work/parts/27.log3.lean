/-! Log: what is stable, what is seen -/
/-- how the transaction of a PART with this key ended: the next COMMIT or ABORT of the key, from this offset on -/
def fateFrom : List En → Nat → Option Nat
  | [], _ => none
  | e :: l, key => if 2 ≤ eK e ∧ eY e = key then some (eK e) else fateFrom l key
def comAt (es : List En) (o : Nat) : Bool := decide (eK (es.getD o en0) = 0) || (decide (eK (es.getD o en0) = 1) && decide (fateFrom (es.drop o) (eY (es.getD o en0)) = some 2))
/-- the first of the entries from o on that is a PART without an end -/
def stbAt (es : List En) (n : Nat) : Nat → Nat
  | 0 => n
  | k + 1 => if eK (es.getD (n - (k + 1)) en0) = 1 ∧ fateFrom (es.drop (n - (k + 1))) (eY (es.getD (n - (k + 1)) en0)) = none then n - (k + 1) else stbAt es n k
theorem drop_cons {es : List En} {j : Nat} (h : j < es.length) : es.drop j = es.getD j en0 :: es.drop (j + 1) := by
  rw [List.drop_eq_getElem_cons h]
  simp [List.getD, List.getElem?_eq_getElem h]
/-- the state of the loop of stable(): arrays, with the entries from j on looked at -/
def StbI (h : ix_H) (L : Nat) (es : List En) (j : Nat) : Prop :=
  (∃ f, h.2.2 (L + 4) = .inl (.boolean, 285, .inl f) ∧ ∀ o, j ≤ o → o < es.length → f o = b01 (comAt es o)) ∧
  (∃ f, h.2.2 (L + 5) = .inl (.int, 32, .inl f) ∧ ∀ k, k < 32 → f k = oI (fateFrom (es.drop j) k))
theorem comAt_eq (es : List En) (o : Nat) : comAt es o = true ↔ (eK (es.getD o en0) = 0 ∨ (eK (es.getD o en0) = 1 ∧ fateFrom (es.drop o) (eY (es.getD o en0)) = some 2)) := by
  simp only [comAt, Bool.or_eq_true, Bool.and_eq_true, decide_eq_true_eq]
theorem fate_k {es : List En} (hok : ∀ e ∈ es, okP e) {k x : Nat} (h : fateFrom es k = some x) : x = 2 ∨ x = 3 := by
  induction es with
  | nil => cases h
  | cons e l ih =>
    unfold fateFrom at h
    split at h
    · rename_i c
      cases h
      have := (hok e List.mem_cons_self).1
      omega
    · exact ih (fun e he => hok e (List.mem_cons_of_mem _ he)) h
