/-! ByteRow -/
theorem hs_same (h : ix_H) (a : Nat) (x : ix_E) : (ix_set h a x).2.2 a = x := by simp [ix_set, va_up]
theorem hs_ne (h : ix_H) {a b : Nat} (x : ix_E) (hb : ¬ b = a) : (ix_set h a x).2.2 b = h.2.2 b := by simp [ix_set, va_up, hb]
/-- nothing but these cells has changed -/
def Fr (L : List Nat) (h h' : ix_H) : Prop := h'.1 = h.1 ∧ h'.2.1 = h.2.1 ∧ ∀ k, k ∉ L → h'.2.2 k = h.2.2 k
theorem Fr.rf (L : List Nat) (h : ix_H) : Fr L h h := ⟨rfl, rfl, fun _ _ => rfl⟩
theorem Fr.trans {L : List Nat} {h h' h'' : ix_H} (a : Fr L h h') (b : Fr L h' h'') : Fr L h h'' := ⟨b.1.trans a.1, b.2.1.trans a.2.1, fun k hk => (b.2.2 k hk).trans (a.2.2 k hk)⟩
theorem Fr.mono {L M : List Nat} {h h' : ix_H} (a : Fr L h h') (hs : ∀ k, k ∈ L → k ∈ M) : Fr M h h' := ⟨a.1, a.2.1, fun k hk => a.2.2 k (fun z => hk (hs k z))⟩
theorem Fr.set {L : List Nat} {h : ix_H} {a : Nat} (x : ix_E) (ha : a ∈ L) : Fr L h (ix_set h a x) := ⟨rfl, rfl, fun k hk => hs_ne h x (fun z => hk (z ▸ ha))⟩
/-- a byte as an array holds it -/
def sg (b : Nat) : Int32 := (nI b).toInt8.toInt32
/-- a row of bytes: object r, array a, room N -/
def RowAt (h : ix_H) (r a N : Nat) (bs : List Nat) : Prop := h.2.2 r = .inr (0, [.ref a, .int (nI bs.length)]) ∧ (∃ f, h.2.2 a = .inl (.byte, N, .inl f) ∧ ∀ i, i < bs.length → f i = sg (bs.getD i 0)) ∧ bs.length ≤ N ∧ N < 2 ^ 30 ∧ ∀ b ∈ bs, b < 256
theorem sg_and {b : Nat} (hb : b < 256) : sg b &&& nI 255 = nI b := by
  have : ∀ b, b < 256 → sg b &&& nI 255 = nI b := by decide +kernel
  exact this b hb
theorem e_clear {d : Nat} {h : ix_H} {r a N : Nat} {bs : List Nat} (hr : RowAt h r a N bs) : ev (d + 1) n_X0_clear [.ref r] h (fun o => o.1 = none ∧ Fr [r, a] h o.2 ∧ RowAt o.2 r a N []) := by
  obtain ⟨h1, ⟨f, h2, h3⟩, h4, h5, h6⟩ := hr
  have hra : ¬ a = r := fun z => by rw [z, h1] at h2; cases h2
  refine ev_of q_X0_clear (Nat.le_of_ble_eq_true rfl) ?_
  refine gs_n 1 a_X0_clear_0 rfl ?_
  refine gs_k (nI 0) 2 a_X0_clear_1 (by decide +kernel) rfl ?_
  refine gs_put 5 _ a_X0_clear_2 f_0_21 (by first | assumption | (simp [hs_same, hs_ne, *]; done)) (Nat.le_of_ble_eq_true rfl) rfl (fun z => absurd z (by decide)) rfl rfl ?_
  refine gs_vret a_X0_clear_5 rfl ?_
  refine ⟨rfl, Fr.set _ (by simp), ⟨?_, ⟨f, ?_, ?_⟩, ?_, h5, ?_⟩⟩
  · rw [hs_same]; rfl
  · rw [hs_ne _ _ hra]; exact h2
  · intro i hi; simp at hi
  · simp
  · simp
