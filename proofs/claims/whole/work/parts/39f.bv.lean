/-! THE BOOK'S ENTRIES COME IN THEIR ORDER -/
section BV
variable {P cap : Nat} {X : List En} {e : En}
def bvE (P : Nat) (e : En) : TS → Prop
  | (_, _, tx, _, _, _, _, _, _, nx, _, _) => eF e = P → (eK e = 1 → tx (eY e) = 0 ∧ eB e = nx) ∧ (eK e = 3 → tx (eY e) ≠ 0) ∧ (eK e = 4 → tx (eY e) ≠ 0 ∧ eB e = tx (eY e) - 1 ∧ eA e ≤ 1) ∧ (eK e = 5 → tx (eY e) ≠ 0 ∧ eB e = tx (eY e) - 1)
def bv (P : Nat) (X : List En) : Prop := ∀ i, i < X.length → bvE P (X.getD i en0) (told P (X.take i))
theorem bv_nil (P : Nat) : bv P [] := by
  intro i hi
  exact absurd hi (by simp)
theorem bv_snoc (hb : bv P X) (he : bvE P e (told P X)) : bv P (X ++ [e]) := by
  intro i hi
  by_cases z : i < X.length
  · rw [getD_sn z, List.take_append_of_le_length (by omega)]
    exact hb i z
  · have : i = X.length := by rw [List.length_append] at hi; simp at hi; omega
    subst this
    rw [getD_last, List.take_append_of_le_length (Nat.le_refl _), List.take_length]
    exact he
theorem bv_take (hb : bv P X) (j : Nat) : bv P (X.take j) := by
  intro i hi
  rw [List.length_take] at hi
  rw [getD_take (by omega), List.take_take, Nat.min_eq_left (by omega)]
  exact hb i (by omega)
theorem bvE_p (T : TS) (he : eF e ≠ P) : bvE P e T := by
  obtain ⟨n, ep, tx, bg, ba, ad, lc, de, mq, nx, la, en⟩ := T
  exact fun q => absurd q he
theorem bvE_k (T : TS) (h1 : eK e ≠ 1) (h3 : eK e ≠ 3) (h4 : eK e ≠ 4) (h5 : eK e ≠ 5) : bvE P e T := by
  obtain ⟨n, ep, tx, bg, ba, ad, lc, de, mq, nx, la, en⟩ := T
  exact fun _ => ⟨fun q => absurd q h1, fun q => absurd q h3, fun q => absurd q h4, fun q => absurd q h5⟩
theorem told_finR {E t K k : Nat} {m : Int32} : ∀ (j p : Nat) (Y : List En), p + j ≤ P → told P (finR E t K k m p j Y) = told P Y := by
  intro j
  induction j with
  | zero => intro p Y _; rfl
  | succ j ih =>
    intro p Y hp
    simp only [finR]
    rw [ih (p + 1) _ (by omega)]
    split
    · rw [told_snoc, if_neg (show ¬ p = P by omega)]
    · rfl
theorem bv_finR {E t K k : Nat} {m : Int32} : ∀ (j p : Nat) (Y : List En), p + j ≤ P → bv P Y → bv P (finR E t K k m p j Y) := by
  intro j
  induction j with
  | zero => intro p Y _ h; exact h
  | succ j ih =>
    intro p Y hp h
    simp only [finR]
    refine ih (p + 1) _ (by omega) ?_
    split
    · exact bv_snoc h (bvE_p _ (show p ≠ P by omega))
    · exact h
theorem bv_finX {k : Nat} (ht : (told P X).2.2.1 k ≠ 0) (hb : bv P X) : bv P (finX P X k) := by
  unfold finX
  refine bv_snoc (bv_finR P 0 X (by omega) hb) ?_
  rw [told_finR P 0 X (by omega)]
  obtain ⟨n, ep, tx, bg, ba, ad, lc, de, mq, nx, la, en, hT⟩ := told_ex P X
  rw [hT] at ht ⊢
  exact fun _ => ⟨fun q => absurd q (Nat.ne_of_beq_eq_false rfl), fun q => absurd q (Nat.ne_of_beq_eq_false rfl), fun q => absurd q (Nat.ne_of_beq_eq_false rfl), fun _ => ⟨ht, rfl⟩⟩
theorem bv_decX {k c : Nat} (ht : (told P X).2.2.1 k ≠ 0) (hc : c ≤ 1) (hb : bv P X) : bv P (decX P X k c) := by
  unfold decX
  refine bv_snoc hb ?_
  obtain ⟨n, ep, tx, bg, ba, ad, lc, de, mq, nx, la, en, hT⟩ := told_ex P X
  rw [hT] at ht ⊢
  exact fun _ => ⟨fun q => absurd q (Nat.ne_of_beq_eq_false rfl), fun q => absurd q (Nat.ne_of_beq_eq_false rfl), fun _ => ⟨ht, rfl, hc⟩, fun q => absurd q (Nat.ne_of_beq_eq_false rfl)⟩
theorem told_decX {k c : Nat} : (told P (decX P X k c)).2.2.1 = (told P X).2.2.1 := by
  unfold decX
  rw [told_snoc, if_pos rfl]
  obtain ⟨n, ep, tx, bg, ba, ad, lc, de, mq, nx, la, en, hT⟩ := told_ex P X
  rw [hT]
  rfl
theorem bv_regX {k : Nat} (hb : bv P X) : bv P (regX P X k) := bv_snoc hb (bvE_k _ (Nat.ne_of_beq_eq_false rfl) (Nat.ne_of_beq_eq_false rfl) (Nat.ne_of_beq_eq_false rfl) (Nat.ne_of_beq_eq_false rfl))
theorem bv_stepT {k : Nat} (ht : (told P X).2.2.1 k ≠ 0) (hb : bv P X) : bv P (stepT P X k) := by
  unfold stepT
  exact bv_regX (bv_finX (by rw [told_decX]; exact ht) (bv_decX ht (by decide) hb))
/-- what the array of decisions holds -/
def RD (g : Nat → Int32) : TS → Prop
  | (_, _, tx, _, _, _, _, de, _, nx, _, _) => (∀ k, k < 32 → tx k ≠ 0 → g (tx k - 1) = nI (if de k = 0 then 0 else 3 - de k)) ∧ (∀ t, nx ≤ t → t < 1100 → g t = nI 0)
end BV
