/-! BYTES AND CRASHES, PURE -/
section PC
variable {P cap sy torn : Nat} {X : List En} {tE : En}
theorem sumOn_app (g : En → Nat) (a b : List En) : sumOn g (a ++ b) = sumOn g a + sumOn g b := by simp [sumOn]
theorem sz_pos (e : En) : 0 < sz P e := by
  unfold sz
  split <;> omega
theorem encP_sz {e : En} (h : okE P e) (hf : eF e < P) : (encP e).length = sz P e := by
  rw [encP_len (h.2.2.2 hf)]
  unfold sz
  rw [if_neg (by omega)]
theorem bytesP_sum {f : Nat} (hf : f < P) (hX : ∀ e ∈ X, okE P e) : bytesP f X = sumOn (szF P f) X := by
  unfold bytesP fl sumOn
  induction X with
  | nil => rfl
  | cons a l ih =>
    have h1 := ih (fun e he => hX e (List.mem_cons_of_mem _ he))
    simp only [List.filter_cons, List.map_cons, List.sum_cons]
    by_cases z : eF a = f
    · rw [if_pos (by simpa using z), List.flatMap_cons, List.length_append, h1, encP_sz (hX a List.mem_cons_self) (by omega)]
      unfold szF
      rw [if_pos z]
    · rw [if_neg (by simpa using z), h1]
      unfold szF
      rw [if_neg z, Nat.zero_add]
theorem bytesB_sum : 16 * (fl P X).length = sumOn (szF P P) X := by
  unfold fl sumOn
  induction X with
  | nil => rfl
  | cons a l ih =>
    simp only [List.filter_cons, List.map_cons, List.sum_cons]
    by_cases z : eF a = P
    · rw [if_pos (by simpa using z), List.length_cons]
      unfold szF sz
      rw [if_pos z, if_pos z]
      unfold szF sz at ih
      omega
    · rw [if_neg (by simpa using z), ih]
      rw [show szF P P a = 0 by unfold szF; rw [if_neg z], Nat.zero_add]
theorem crp_ok : ∀ (l : List En) (m : Nat), m ≤ sumOn (sz P) l → (crp P l m).1 ≤ l.length ∧ ((crp P l m).1 = l.length → (crp P l m).2 = 0) ∧ ((crp P l m).1 < l.length → (crp P l m).2 < sz P (l.getD (crp P l m).1 en0)) ∧ sumOn (sz P) (l.take (crp P l m).1) + (crp P l m).2 = m := by
  intro l
  induction l with
  | nil =>
    intro m hm
    have : m = 0 := by simpa [sumOn] using hm
    subst this
    simp [crp, sumOn]
  | cons e l ih =>
    intro m hm
    simp only [crp]
    by_cases z : sz P e ≤ m
    · rw [if_pos z]
      have h0 : sumOn (sz P) (e :: l) = sz P e + sumOn (sz P) l := by simp [sumOn]
      obtain ⟨h1, h2, h3, h4⟩ := ih (m - sz P e) (by omega)
      refine ⟨by simp only [List.length_cons]; omega, fun q => h2 (by simp only [List.length_cons] at q; omega), fun q => ?_, ?_⟩
      · simp only [List.length_cons] at q
        rw [List.getD_cons_succ]
        exact h3 (by omega)
      · rw [List.take_succ_cons]
        have : sumOn (sz P) (e :: l.take (crp P l (m - sz P e)).1) = sz P e + sumOn (sz P) (l.take (crp P l (m - sz P e)).1) := by simp [sumOn]
        omega
    · rw [if_neg z]
      refine ⟨Nat.zero_le _, fun q => by simp at q, fun _ => by rw [List.getD_cons_zero]; omega, by simp [sumOn]⟩
theorem kp_0 (l : List (Nat × Nat)) (f : Nat) : kp l f 0 = 0 := by
  cases l with
  | nil => rfl
  | cons a l => obtain ⟨g, s⟩ := a; simp [kp]
theorem kp_crp (f : Nat) : ∀ (l : List En) (m : Nat), m ≤ sumOn (sz P) l → kp (l.map (fun e => (eF e, sz P e))) f m = sumOn (szF P f) (l.take (crp P l m).1) + (if eF (l.getD (crp P l m).1 en0) = f then (crp P l m).2 else 0) := by
  intro l
  induction l with
  | nil =>
    intro m hm
    have : m = 0 := by simpa [sumOn] using hm
    subst this
    simp [crp, sumOn, kp]
  | cons e l ih =>
    intro m hm
    have hp := sz_pos (P := P) e
    by_cases z : sz P e ≤ m
    · have hcr : crp P (e :: l) m = ((crp P l (m - sz P e)).1 + 1, (crp P l (m - sz P e)).2) := by simp only [crp]; rw [if_pos z]
      rw [hcr]
      simp only [List.map_cons, kp]
      rw [if_neg (by omega), Nat.min_eq_left z]
      have h0 : sumOn (sz P) (e :: l) = sz P e + sumOn (sz P) l := by simp [sumOn]
      rw [ih (m - sz P e) (by omega)]
      rw [List.take_succ_cons, List.getD_cons_succ]
      have : sumOn (szF P f) (e :: l.take (crp P l (m - sz P e)).1) = szF P f e + sumOn (szF P f) (l.take (crp P l (m - sz P e)).1) := by simp [sumOn]
      rw [this]
      unfold szF
      omega
    · have hcr : crp P (e :: l) m = (0, m) := by simp only [crp]; rw [if_neg z]
      rw [hcr]
      simp only [List.map_cons, kp, List.take_zero, List.getD_cons_zero]
      by_cases y : m = 0
      · subst y; simp [sumOn]
      · rw [if_neg y, Nat.min_eq_right (by omega), Nat.sub_self, kp_0]
        simp [sumOn]
theorem fl_app (p : Nat) (a b : List En) : fl p (a ++ b) = fl p a ++ fl p b := by simp [fl]
theorem flB_take (f : Nat) (j : Nat) : ∃ r, fl f X = fl f (X.take j) ++ r ∧ (j < X.length → eF (X.getD j en0) = f → ∃ r', r = X.getD j en0 :: r') := by
  refine ⟨fl f (X.drop j), ?_, ?_⟩
  · rw [← fl_app, List.take_append_drop]
  · intro hj hf
    rw [drop_cons hj]
    refine ⟨fl f (X.drop (j + 1)), ?_⟩
    unfold fl
    rw [List.filter_cons, if_pos (by simpa using hf)]
theorem wh_eq {es : List En} {n c0 : Nat} (h1 : off es c0 ≤ n) (h2 : c0 < es.length → n < off es (c0 + 1)) : ∀ j, c0 ≤ j → j ≤ es.length → wh es n j = c0 := by
  intro j
  induction j with
  | zero => intro h _; unfold wh; omega
  | succ j ih =>
    intro hc hj
    unfold wh
    by_cases z : c0 = j + 1
    · rw [if_pos (by rw [← z]; exact h1)]; omega
    · have h3 := off_mono (es := es) (i := c0 + 1) (j := j + 1) (by omega) hj
      have h4 := h2 (by omega)
      rw [if_neg (by omega)]
      exact ih (by omega) (by omega)
theorem off_app (a b : List En) : off (a ++ b) a.length = (a.flatMap encP).length := by
  unfold off
  rw [List.take_left' rfl]
theorem take_more {a b c : List Nat} {r : Nat} (h : r ≤ b.length) : (a ++ (b ++ c)).take (a.length + r) = a ++ b.take r := by
  rw [List.take_length_add_append, List.take_append_of_le_length h]
end PC
