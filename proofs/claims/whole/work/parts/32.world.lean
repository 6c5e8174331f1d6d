/-! THE BOOK'S ENTRIES; THE CLASS'S WHOLE STATE -/
def bodyB (e : En) : List Nat := be 1 (nI (eK e)) ++ (be 1 (nI (eY e)) ++ (be 2 (nI (eE e)) ++ (be 4 (nI (eA e)) ++ be 4 (nI (eB e)))))
def encB (e : En) : List Nat := be 4 (sumI (bodyB e)) ++ bodyB e
def okB (e : En) : Prop := eK e ≤ 6 ∧ eY e < 32 ∧ eE e < 65536 ∧ eA e < 2 ^ 31 ∧ eB e < 2 ^ 31 ∧ (eK e = 3 ∨ eK e = 6 → eA e < 64)
theorem encB_len (e : En) : (encB e).length = 16 := by simp [encB, bodyB, be_len]
theorem encB_lt (e : En) : ∀ x ∈ encB e, x < 256 := by
  intro x hx
  simp only [encB, bodyB, List.mem_append] at hx
  rcases hx with z | z | z | z | z | z <;> exact be_lt _ _ x z
theorem encB_f (e : En) : ((encB e).drop 4).take 1 = be 1 (nI (eK e)) ∧ ((encB e).drop 5).take 1 = be 1 (nI (eY e)) ∧ ((encB e).drop 6).take 2 = be 2 (nI (eE e)) ∧ ((encB e).drop 8).take 4 = be 4 (nI (eA e)) ∧ ((encB e).drop 12).take 4 = be 4 (nI (eB e)) := by
  refine ⟨?_, ?_, ?_, ?_, ?_⟩ <;> simp [encB, bodyB, be]
theorem flatB_len (bk : List En) : (bk.flatMap encB).length = 16 * bk.length := by
  induction bk with
  | nil => rfl
  | cons a l ih => rw [List.flatMap_cons, List.length_append, encB_len, ih, List.length_cons]; omega
theorem dropB {bk : List En} {j : Nat} (bt : List Nat) (h : j < bk.length) : (bk.flatMap encB ++ bt).drop (16 * j) = encB (bk.getD j en0) ++ ((bk.drop (j + 1)).flatMap encB ++ bt) := by
  have h1 : bk.flatMap encB = (bk.take j).flatMap encB ++ (bk.drop j).flatMap encB := by rw [← List.flatMap_append, List.take_append_drop]
  have h2 : ((bk.take j).flatMap encB).length = 16 * j := by rw [flatB_len, List.length_take, Nat.min_eq_left (by omega)]
  rw [h1, List.append_assoc, ← h2, List.drop_left' rfl, List.drop_eq_getElem_cons h, List.flatMap_cons]
  simp [List.getD, List.getElem?_eq_getElem h]
theorem takeB {bk : List En} {j w n : Nat} (bt : List Nat) (h : j < bk.length) (hw : w + n ≤ 16) : ((bk.flatMap encB ++ bt).drop (16 * j + w)).take n = ((encB (bk.getD j en0)).drop w).take n := by
  rw [← List.drop_drop, dropB bt h, List.drop_append_of_le_length (by rw [encB_len]; omega), List.take_append_of_le_length (by rw [List.length_drop, encB_len]; omega)]
/-- a producer's cell -/
abbrev PS : Type := Int32 × Int32 × Int32 × Int32 × Int32 × Int32 × Int32
abbrev pcE (s : PS) : ix_E := pcell s.1 s.2.1 s.2.2.1 s.2.2.2.1 s.2.2.2.2.1 s.2.2.2.2.2.1 s.2.2.2.2.2.2
/-- partitions, capacity, timeout, clock, closed, cut, next -/
abbrev SC : Type := Nat × Nat × Nat × Nat × Bool × Nat × Nat
def ocell (s : SC) : ix_E := .inr (4, [.ref 1, .ref 3, .ref 5, .ref 7, .ref 8, .ref 10, .ref 14, .ref 15, .int (nI s.1), .int (nI s.2.1), .int (nI s.2.2.1), .int (nI s.2.2.2.1), .int (b01 s.2.2.2.2.1), .int (nI s.2.2.2.2.2.1), .int (nI s.2.2.2.2.2.2)])
def scOk (s : SC) : Prop := 1 ≤ s.1 ∧ s.1 ≤ 8 ∧ 100 ≤ s.2.1 ∧ s.2.1 ≤ 4000 ∧ 1 ≤ s.2.2.1 ∧ s.2.2.1 ≤ 1000 ∧ s.2.2.2.1 ≤ 1000000 ∧ s.2.2.2.2.2.1 < 2 ^ 30 ∧ s.2.2.2.2.2.2 < 2 ^ 30
/-- THE CLASS'S CELLS: scalars, partitions with what is broken behind them, book likewise, unsynced pieces, producers, marks, tape, answer -/
def CW (h : ix_H) (sc : SC) (lg : Nat → List En) (tn : Nat → List Nat) (bk : List En) (bt : List Nat) (un : List (Nat × Nat)) (pr : Nat → PS) (mk : Nat → Int32) (tp an : List Nat) : Prop :=
  h.2.2 0 = ocell sc ∧ scOk sc ∧ RowAt h 1 2 40 tp ∧ RowAt h 3 4 40 an ∧ RowAt h 5 6 0 [] ∧
  (∃ f, h.2.2 7 = .inl (.object RX1, 8, .inr (.inr (.inr (.inr f)))) ∧ ∀ i, i < 8 → f i = some (16 + 6 * i)) ∧
  RowAt h 8 9 16000 (bk.flatMap encB ++ bt) ∧ UnsAt h 10 un ∧
  (∃ f, h.2.2 14 = .inl (.object RX2, 32, .inr (.inr (.inr (.inr f)))) ∧ ∀ i, i < 32 → f i = some (64 + i)) ∧
  (∃ f, h.2.2 15 = .inl (.int, 64, .inl f) ∧ ∀ i, i < 64 → f i = mk i) ∧
  (∀ p, p < 8 → LogAt h (16 + 6 * p) (lg p) (tn p)) ∧ (∀ k, k < 32 → h.2.2 (64 + k) = pcE (pr k)) ∧ (∀ e ∈ bk, okB e)
/-- nothing outside a set of cells has changed -/
def FS (S : Nat → Prop) (h h' : ix_H) : Prop := h'.1 = h.1 ∧ h'.2.1 = h.2.1 ∧ ∀ k, ¬ S k → h'.2.2 k = h.2.2 k
theorem FS.rf (S : Nat → Prop) (h : ix_H) : FS S h h := ⟨rfl, rfl, fun _ _ => rfl⟩
theorem FS.trans {S : Nat → Prop} {h h' h'' : ix_H} (a : FS S h h') (b : FS S h' h'') : FS S h h'' := ⟨b.1.trans a.1, b.2.1.trans a.2.1, fun k hk => (b.2.2 k hk).trans (a.2.2 k hk)⟩
theorem FS.of {S : Nat → Prop} {L : List Nat} {h h' : ix_H} (a : Fr L h h') (hs : ∀ k, k ∈ L → S k) : FS S h h' := ⟨a.1, a.2.1, fun k hk => a.2.2 k (fun z => hk (hs k z))⟩
theorem FS.mono {S T : Nat → Prop} {h h' : ix_H} (a : FS S h h') (hs : ∀ k, S k → T k) : FS T h h' := ⟨a.1, a.2.1, fun k hk => a.2.2 k (fun z => hk (hs k z))⟩
/-- the class's cells -/
def cC (k : Nat) : Prop := k < 96
theorem UnsAt.fr {h h' : ix_H} {u : Nat} {l : List (Nat × Nat)} (hu : UnsAt h u l) (e0 : h'.2.2 u = h.2.2 u) (e1 : h'.2.2 (u + 1) = h.2.2 (u + 1)) (e2 : h'.2.2 (u + 2) = h.2.2 (u + 2)) (e3 : h'.2.2 (u + 3) = h.2.2 (u + 3)) : UnsAt h' u l := by
  obtain ⟨h1, ⟨f1, h2, h3⟩, ⟨f2, h4, h5⟩, ⟨f3, h6, h7⟩, h8, h9⟩ := hu
  exact ⟨e0.trans h1, ⟨f1, e1.trans h2, h3⟩, ⟨f2, e2.trans h4, h5⟩, ⟨f3, e3.trans h6, h7⟩, h8, h9⟩
theorem LogAt.keep {h h' : ix_H} {L : Nat} {es : List En} {tn : List Nat} (hl : LogAt h L es tn) (he : ∀ i, i < 6 → h'.2.2 (L + i) = h.2.2 (L + i)) : LogAt h' L es tn := by
  obtain ⟨g1, g2, ⟨f3, g3, g3'⟩, ⟨f4, g4⟩, ⟨f5, g5⟩, g7⟩ := hl
  exact ⟨(he 0 (by omega)).trans g1, g2.fr (he 1 (by omega)) (he 2 (by omega)), ⟨f3, (he 3 (by omega)).trans g3, g3'⟩, ⟨f4, (he 4 (by omega)).trans g4⟩, ⟨f5, (he 5 (by omega)).trans g5⟩, g7⟩
section CWs
variable {h h' : ix_H} {sc : SC} {lg : Nat → List En} {tn : Nat → List Nat} {bk : List En} {bt : List Nat} {un : List (Nat × Nat)} {pr : Nat → PS} {mk : Nat → Int32} {tp an : List Nat}
theorem CW.obj (w : CW h sc lg tn bk bt un pr mk tp an) {sc' : SC} (hF : Fr [0] h h') (ho : h'.2.2 0 = ocell sc') (hk : scOk sc') : CW h' sc' lg tn bk bt un pr mk tp an := by
  obtain ⟨w1, w2, w3, w4, w5, ⟨f6, w6, w6'⟩, w7, w8, ⟨f9, w9, w9'⟩, ⟨f10, w10, w10'⟩, w11, w12, w13⟩ := w
  have e : ∀ k, k ≠ 0 → h'.2.2 k = h.2.2 k := fun k hk => hF.2.2 k (by simpa using hk)
  exact ⟨ho, hk, w3.fr (e _ (by omega)) (e _ (by omega)), w4.fr (e _ (by omega)) (e _ (by omega)), w5.fr (e _ (by omega)) (e _ (by omega)), ⟨f6, (e _ (by omega)).trans w6, w6'⟩, w7.fr (e _ (by omega)) (e _ (by omega)), w8.fr (e _ (by omega)) (e _ (by omega)) (e _ (by omega)) (e _ (by omega)), ⟨f9, (e _ (by omega)).trans w9, w9'⟩, ⟨f10, (e _ (by omega)).trans w10, w10'⟩, fun p hp => (w11 p hp).keep (fun i hi => e _ (by omega)), fun k hk => (e _ (by omega)).trans (w12 k hk), w13⟩
theorem CW.tape (w : CW h sc lg tn bk bt un pr mk tp an) {tp' : List Nat} (hF : Fr [1, 2] h h') (ho : RowAt h' 1 2 40 tp') : CW h' sc lg tn bk bt un pr mk tp' an := by
  obtain ⟨w1, w2, w3, w4, w5, ⟨f6, w6, w6'⟩, w7, w8, ⟨f9, w9, w9'⟩, ⟨f10, w10, w10'⟩, w11, w12, w13⟩ := w
  have e : ∀ k, k ≠ 1 → k ≠ 2 → h'.2.2 k = h.2.2 k := fun k h1 h2 => hF.2.2 k (by simp; omega)
  exact ⟨(e _ (by omega) (by omega)).trans w1, w2, ho, w4.fr (e _ (by omega) (by omega)) (e _ (by omega) (by omega)), w5.fr (e _ (by omega) (by omega)) (e _ (by omega) (by omega)), ⟨f6, (e _ (by omega) (by omega)).trans w6, w6'⟩, w7.fr (e _ (by omega) (by omega)) (e _ (by omega) (by omega)), w8.fr (e _ (by omega) (by omega)) (e _ (by omega) (by omega)) (e _ (by omega) (by omega)) (e _ (by omega) (by omega)), ⟨f9, (e _ (by omega) (by omega)).trans w9, w9'⟩, ⟨f10, (e _ (by omega) (by omega)).trans w10, w10'⟩, fun p hp => (w11 p hp).keep (fun i hi => e _ (by omega) (by omega)), fun k hk => (e _ (by omega) (by omega)).trans (w12 k hk), w13⟩
theorem CW.ans (w : CW h sc lg tn bk bt un pr mk tp an) {an' : List Nat} (hF : Fr [3, 4] h h') (ho : RowAt h' 3 4 40 an') : CW h' sc lg tn bk bt un pr mk tp an' := by
  obtain ⟨w1, w2, w3, w4, w5, ⟨f6, w6, w6'⟩, w7, w8, ⟨f9, w9, w9'⟩, ⟨f10, w10, w10'⟩, w11, w12, w13⟩ := w
  have e : ∀ k, k ≠ 3 → k ≠ 4 → h'.2.2 k = h.2.2 k := fun k h1 h2 => hF.2.2 k (by simp; omega)
  exact ⟨(e _ (by omega) (by omega)).trans w1, w2, w3.fr (e _ (by omega) (by omega)) (e _ (by omega) (by omega)), ho, w5.fr (e _ (by omega) (by omega)) (e _ (by omega) (by omega)), ⟨f6, (e _ (by omega) (by omega)).trans w6, w6'⟩, w7.fr (e _ (by omega) (by omega)) (e _ (by omega) (by omega)), w8.fr (e _ (by omega) (by omega)) (e _ (by omega) (by omega)) (e _ (by omega) (by omega)) (e _ (by omega) (by omega)), ⟨f9, (e _ (by omega) (by omega)).trans w9, w9'⟩, ⟨f10, (e _ (by omega) (by omega)).trans w10, w10'⟩, fun p hp => (w11 p hp).keep (fun i hi => e _ (by omega) (by omega)), fun k hk => (e _ (by omega) (by omega)).trans (w12 k hk), w13⟩
theorem CW.book (w : CW h sc lg tn bk bt un pr mk tp an) {bk' : List En} {bt' : List Nat} (hF : Fr [8, 9] h h') (ho : RowAt h' 8 9 16000 (bk'.flatMap encB ++ bt')) (hk : ∀ e ∈ bk', okB e) : CW h' sc lg tn bk' bt' un pr mk tp an := by
  obtain ⟨w1, w2, w3, w4, w5, ⟨f6, w6, w6'⟩, w7, w8, ⟨f9, w9, w9'⟩, ⟨f10, w10, w10'⟩, w11, w12, w13⟩ := w
  have e : ∀ k, k ≠ 8 → k ≠ 9 → h'.2.2 k = h.2.2 k := fun k h1 h2 => hF.2.2 k (by simp; omega)
  exact ⟨(e _ (by omega) (by omega)).trans w1, w2, w3.fr (e _ (by omega) (by omega)) (e _ (by omega) (by omega)), w4.fr (e _ (by omega) (by omega)) (e _ (by omega) (by omega)), w5.fr (e _ (by omega) (by omega)) (e _ (by omega) (by omega)), ⟨f6, (e _ (by omega) (by omega)).trans w6, w6'⟩, ho, w8.fr (e _ (by omega) (by omega)) (e _ (by omega) (by omega)) (e _ (by omega) (by omega)) (e _ (by omega) (by omega)), ⟨f9, (e _ (by omega) (by omega)).trans w9, w9'⟩, ⟨f10, (e _ (by omega) (by omega)).trans w10, w10'⟩, fun p hp => (w11 p hp).keep (fun i hi => e _ (by omega) (by omega)), fun k hk => (e _ (by omega) (by omega)).trans (w12 k hk), hk⟩
theorem CW.uns (w : CW h sc lg tn bk bt un pr mk tp an) {un' : List (Nat × Nat)} (hF : Fr [10, 11, 12, 13] h h') (ho : UnsAt h' 10 un') : CW h' sc lg tn bk bt un' pr mk tp an := by
  obtain ⟨w1, w2, w3, w4, w5, ⟨f6, w6, w6'⟩, w7, w8, ⟨f9, w9, w9'⟩, ⟨f10, w10, w10'⟩, w11, w12, w13⟩ := w
  have e : ∀ k, (k < 10 ∨ 13 < k) → h'.2.2 k = h.2.2 k := fun k h1 => hF.2.2 k (by simp; omega)
  exact ⟨(e _ (by omega)).trans w1, w2, w3.fr (e _ (by omega)) (e _ (by omega)), w4.fr (e _ (by omega)) (e _ (by omega)), w5.fr (e _ (by omega)) (e _ (by omega)), ⟨f6, (e _ (by omega)).trans w6, w6'⟩, w7.fr (e _ (by omega)) (e _ (by omega)), ho, ⟨f9, (e _ (by omega)).trans w9, w9'⟩, ⟨f10, (e _ (by omega)).trans w10, w10'⟩, fun p hp => (w11 p hp).keep (fun i hi => e _ (by omega)), fun k hk => (e _ (by omega)).trans (w12 k hk), w13⟩
theorem CW.marks (w : CW h sc lg tn bk bt un pr mk tp an) {mk' : Nat → Int32} (hF : Fr [15] h h') (ho : ∃ f, h'.2.2 15 = .inl (.int, 64, .inl f) ∧ ∀ i, i < 64 → f i = mk' i) : CW h' sc lg tn bk bt un pr mk' tp an := by
  obtain ⟨w1, w2, w3, w4, w5, ⟨f6, w6, w6'⟩, w7, w8, ⟨f9, w9, w9'⟩, ⟨f10, w10, w10'⟩, w11, w12, w13⟩ := w
  have e : ∀ k, k ≠ 15 → h'.2.2 k = h.2.2 k := fun k h1 => hF.2.2 k (by simpa using h1)
  exact ⟨(e _ (by omega)).trans w1, w2, w3.fr (e _ (by omega)) (e _ (by omega)), w4.fr (e _ (by omega)) (e _ (by omega)), w5.fr (e _ (by omega)) (e _ (by omega)), ⟨f6, (e _ (by omega)).trans w6, w6'⟩, w7.fr (e _ (by omega)) (e _ (by omega)), w8.fr (e _ (by omega)) (e _ (by omega)) (e _ (by omega)) (e _ (by omega)), ⟨f9, (e _ (by omega)).trans w9, w9'⟩, ho, fun p hp => (w11 p hp).keep (fun i hi => e _ (by omega)), fun k hk => (e _ (by omega)).trans (w12 k hk), w13⟩
theorem CW.prod (w : CW h sc lg tn bk bt un pr mk tp an) {k0 : Nat} {s : PS} (hk0 : k0 < 32) (hF : Fr [64 + k0] h h') (ho : h'.2.2 (64 + k0) = pcE s) : CW h' sc lg tn bk bt un (va_up pr k0 s) mk tp an := by
  obtain ⟨w1, w2, w3, w4, w5, ⟨f6, w6, w6'⟩, w7, w8, ⟨f9, w9, w9'⟩, ⟨f10, w10, w10'⟩, w11, w12, w13⟩ := w
  have e : ∀ k, k ≠ 64 + k0 → h'.2.2 k = h.2.2 k := fun k h1 => hF.2.2 k (by simpa using h1)
  refine ⟨(e _ (by omega)).trans w1, w2, w3.fr (e _ (by omega)) (e _ (by omega)), w4.fr (e _ (by omega)) (e _ (by omega)), w5.fr (e _ (by omega)) (e _ (by omega)), ⟨f6, (e _ (by omega)).trans w6, w6'⟩, w7.fr (e _ (by omega)) (e _ (by omega)), w8.fr (e _ (by omega)) (e _ (by omega)) (e _ (by omega)) (e _ (by omega)), ⟨f9, (e _ (by omega)).trans w9, w9'⟩, ⟨f10, (e _ (by omega)).trans w10, w10'⟩, fun p hp => (w11 p hp).keep (fun i hi => e _ (by omega)), fun k hk => ?_, w13⟩
  by_cases z : k = k0
  · subst z
    rw [ho, va_up_self]
  · rw [e _ (by omega), w12 k hk, va_up_ne _ _ z]
theorem CW.log (w : CW h sc lg tn bk bt un pr mk tp an) {p0 : Nat} {es : List En} {t : List Nat} (hp0 : p0 < 8) (hF : FS (fun k => (16 + 6 * p0) ≤ k ∧ k < (16 + 6 * p0) + 6) h h') (ho : LogAt h' (16 + 6 * p0) es t) : CW h' sc (va_up lg p0 es) (va_up tn p0 t) bk bt un pr mk tp an := by
  obtain ⟨w1, w2, w3, w4, w5, ⟨f6, w6, w6'⟩, w7, w8, ⟨f9, w9, w9'⟩, ⟨f10, w10, w10'⟩, w11, w12, w13⟩ := w
  have e : ∀ k, (k < (16 + 6 * p0) ∨ (16 + 6 * p0) + 6 ≤ k) → h'.2.2 k = h.2.2 k := fun k h1 => hF.2.2 k (by omega)
  refine ⟨(e _ (by omega)).trans w1, w2, w3.fr (e _ (by omega)) (e _ (by omega)), w4.fr (e _ (by omega)) (e _ (by omega)), w5.fr (e _ (by omega)) (e _ (by omega)), ⟨f6, (e _ (by omega)).trans w6, w6'⟩, w7.fr (e _ (by omega)) (e _ (by omega)), w8.fr (e _ (by omega)) (e _ (by omega)) (e _ (by omega)) (e _ (by omega)), ⟨f9, (e _ (by omega)).trans w9, w9'⟩, ⟨f10, (e _ (by omega)).trans w10, w10'⟩, fun p hp => ?_, fun k hk => (e _ (by omega)).trans (w12 k hk), w13⟩
  by_cases z : p = p0
  · subst z
    rw [va_up_self, va_up_self]
    exact ho
  · rw [va_up_ne _ _ z, va_up_ne _ _ z]
    exact (w11 p hp).keep (fun i hi => e _ (by omega))
end CWs
