/-! RULES FOR NEW CELLS -/
section NEW
variable {S : ix_S} {d : Nat} {q : ix_M} {P : ix_O → Prop} {pc n idx : Nat} {ls : ix_L} {st r : List Value} {h : ix_H}
theorem gs_no' {ci i0 : Nat} (a pc' : Nat) (hat : ix_at q.2.2.2.2.2.2.2.1 pc = some (.new idx, n)) (hc : ix_cls q.1 idx = some (ci, i0)) (h5 : ci ≤ 5) (ha : h.1 = a) (hp : pc + 3 = pc') (k : ∀ h' : ix_H, h'.1 = a + 1 → h'.2.1 = h.2.1 + ix_NN ci → (∀ k, k ≠ a → h'.2.2 k = h.2.2 k) → h'.2.2 a = .inr (ci, ix_blank ci) → gs S d q (pc', ls, .ref a :: st, h') P) : gs S d q (pc, ls, st, h) P := by
  subst hp
  subst ha
  refine gs_at hat ?_ (k (ix_new h (ix_NN ci) (.inr (ci, ix_blank ci))) rfl rfl (fun k hk => va_up_ne _ _ hk) (va_up_self _ _ _))
  simp only [ix_exec, ix_no, hc]
  rw [if_pos h5]
theorem gs_na' {x : Int32} {t : ArrayType} {ty : FieldType} (a m pc' : Nat) (hat : ix_at q.2.2.2.2.2.2.2.1 pc = some (.newarray t, n)) (hty : newarray.typeOf t = ty) (ht : ty = .int ∨ ty = .byte ∨ ty = .boolean) (hx : x = nI m) (hm : m ≤ 200000) (ha : h.1 = a) (hp : pc + 2 = pc') (k : ∀ h' : ix_H, h'.1 = a + 1 → h'.2.1 = h.2.1 + m → (∀ k, k ≠ a → h'.2.2 k = h.2.2 k) → h'.2.2 a = .inl (ty, m, .inl (fun _ => 0)) → gs S d q (pc', ls, .ref a :: r, h') P) : gs S d q (pc, ls, .int x :: r, h) P := by
  subst hp
  subst ha
  subst hx
  subst hty
  refine gs_at hat ?_ (k (ix_new h m (.inl (newarray.typeOf t, m, .inl (fun _ => 0)))) rfl rfl (fun k hk => va_up_ne _ _ hk) (va_up_self _ _ _))
  simp only [ix_exec, ix_na]
  rw [nI_clamp (by omega), if_neg]
  rintro (z | z | z)
  · exact nI_pos (by omega) z
  · omega
  · exact z ht
theorem gs_nq' {x : Int32} {ci i0 : Nat} (a m pc' : Nat) (hat : ix_at q.2.2.2.2.2.2.2.1 pc = some (.anewarray idx, n)) (hc : ix_cls q.1 idx = some (ci, i0)) (ht : ci = 1 ∨ ci = 2) (hx : x = nI m) (hm : m ≤ 200000) (ha : h.1 = a) (hp : pc + 3 = pc') (k : ∀ h' : ix_H, h'.1 = a + 1 → h'.2.1 = h.2.1 + m → (∀ k, k ≠ a → h'.2.2 k = h.2.2 k) → h'.2.2 a = .inl (.object (ix_RC ci), m, .inr (.inr (.inr (.inr (fun _ => none))))) → gs S d q (pc', ls, .ref a :: r, h') P) : gs S d q (pc, ls, .int x :: r, h) P := by
  subst hp
  subst ha
  subst hx
  refine gs_at hat ?_ (k (ix_new h m (.inl (.object (ix_RC ci), m, .inr (.inr (.inr (.inr (fun _ => none))))))) rfl rfl (fun k hk => va_up_ne _ _ hk) (va_up_self _ _ _))
  simp only [ix_exec, ix_nq, hc]
  rw [nI_clamp (by omega), if_neg]
  rintro (z | z | z)
  · exact nI_pos (by omega) z
  · omega
  · exact z ht
theorem gs_as' {x : Int32} {m a v ci : Nat} {C : String} {f : Nat → Option Nat} {fs : List Value} (j pc' : Nat) (hat : ix_at q.2.2.2.2.2.2.2.1 pc = some (.aastore, n)) (hc : h.2.2 a = .inl (.object C, m, .inr (.inr (.inr (.inr f))))) (hv : h.2.2 v = .inr (ci, fs)) (hi : x = nI j) (hj : j < m) (hm : m < 2 ^ 31) (ht : ci = 1 ∨ ci = 2) (hC : ix_RC ci = C) (hp : pc + 1 = pc') (kk : gs S d q (pc', ls, r, ix_set h a (.inl (.object C, m, .inr (.inr (.inr (.inr (va_up f j (some v)))))))) P) : gs S d q (pc, ls, .ref v :: .int x :: .ref a :: r, h) P := by
  subst hp
  refine gs_at hat ?_ kk
  have h1 := ix_bad hi hj hm
  subst hi
  simp only [ix_exec, ix_as, hc, hv, h1, if_false]
  rw [if_pos ⟨ht, hC⟩, nI_clamp (by omega)]
end NEW
