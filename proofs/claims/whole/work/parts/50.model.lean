/-! THE REFERENCE'S CELLS -/
/-- partitions, capacity, timeout, clock, closed, cut, many, synced, torn, next, laters, taped, answered -/
abbrev MS : Type := Nat × Nat × Nat × Nat × Bool × Nat × Nat × Nat × Nat × Nat × Nat × Nat × Nat
abbrev mP (s : MS) : Nat := s.1
abbrev mMany (s : MS) : Nat := s.2.2.2.2.2.2.1
abbrev mSy (s : MS) : Nat := s.2.2.2.2.2.2.2.1
abbrev mTorn (s : MS) : Nat := s.2.2.2.2.2.2.2.2.1
def mcell (s : MS) : ix_E := .inr (5, [.int (nI s.1), .int (nI s.2.1), .int (nI s.2.2.1), .int (nI s.2.2.2.1), .int (b01 s.2.2.2.2.1), .int (nI s.2.2.2.2.2.1), .int (nI s.2.2.2.2.2.2.1), .int (nI s.2.2.2.2.2.2.2.1), .ref 97, .ref 98, .ref 99, .ref 100, .ref 101, .ref 102, .ref 103, .ref 104, .int (nI s.2.2.2.2.2.2.2.2.1), .ref 105, .ref 106, .ref 107, .ref 108, .ref 109, .int (nI s.2.2.2.2.2.2.2.2.2.1), .ref 110, .ref 111, .int (nI s.2.2.2.2.2.2.2.2.2.2.1), .ref 112, .ref 113, .ref 114, .ref 115, .int (nI s.2.2.2.2.2.2.2.2.2.2.2.1), .ref 116, .int (nI s.2.2.2.2.2.2.2.2.2.2.2.2), .ref 117])
/-- arrays: 0 file, 1 kind, 2 key, 3 epoch, 4 a, 5 b, 6 of, 7 payload, 8 is, 9 now, 10 open, 11 began, 12 added, 13 marks, 14 ended, 15 laterOf, 16 laterPlace, 17 laterOffset, 18 tape, 19 answer, 20 decided -/
def MW (h : ix_H) (s : MS) (ar : Nat → Nat → Int32) : Prop :=
  h.2.2 96 = mcell s ∧ h.2.2 97 = .inl (.int, 4200, .inl (ar 0)) ∧ h.2.2 98 = .inl (.int, 4200, .inl (ar 1)) ∧ h.2.2 99 = .inl (.int, 4200, .inl (ar 2)) ∧ h.2.2 100 = .inl (.int, 4200, .inl (ar 3)) ∧ h.2.2 101 = .inl (.int, 4200, .inl (ar 4)) ∧ h.2.2 102 = .inl (.int, 4200, .inl (ar 5)) ∧ h.2.2 103 = .inl (.int, 4200, .inl (ar 6)) ∧ h.2.2 104 = .inl (.byte, 168000, .inl (ar 7)) ∧ h.2.2 105 = .inl (.boolean, 32, .inl (ar 8)) ∧ h.2.2 106 = .inl (.int, 32, .inl (ar 9)) ∧ h.2.2 107 = .inl (.int, 32, .inl (ar 10)) ∧ h.2.2 108 = .inl (.int, 32, .inl (ar 11)) ∧ h.2.2 109 = .inl (.int, 32, .inl (ar 12)) ∧ h.2.2 110 = .inl (.int, 64, .inl (ar 13)) ∧ h.2.2 111 = .inl (.int, 1100, .inl (ar 14)) ∧ h.2.2 112 = .inl (.int, 1100, .inl (ar 15)) ∧ h.2.2 113 = .inl (.int, 1100, .inl (ar 16)) ∧ h.2.2 114 = .inl (.int, 1100, .inl (ar 17)) ∧ h.2.2 115 = .inl (.byte, 40, .inl (ar 18)) ∧ h.2.2 116 = .inl (.byte, 40, .inl (ar 19)) ∧ h.2.2 117 = .inl (.int, 1100, .inl (ar 20))
section MWs
variable {h : ix_H} {s : MS} {ar : Nat → Nat → Int32}
theorem MW.obj (w : MW h s ar) (s' : MS) : MW (ix_set h 96 (mcell s')) s' ar := by
  obtain ⟨w0, w1, w2, w3, w4, w5, w6, w7, w8, w9, w10, w11, w12, w13, w14, w15, w16, w17, w18, w19, w20, w21⟩ := w
  exact ⟨hs_same _ _ _, (hs_ne _ _ (by decide)).trans w1, (hs_ne _ _ (by decide)).trans w2, (hs_ne _ _ (by decide)).trans w3, (hs_ne _ _ (by decide)).trans w4, (hs_ne _ _ (by decide)).trans w5, (hs_ne _ _ (by decide)).trans w6, (hs_ne _ _ (by decide)).trans w7, (hs_ne _ _ (by decide)).trans w8, (hs_ne _ _ (by decide)).trans w9, (hs_ne _ _ (by decide)).trans w10, (hs_ne _ _ (by decide)).trans w11, (hs_ne _ _ (by decide)).trans w12, (hs_ne _ _ (by decide)).trans w13, (hs_ne _ _ (by decide)).trans w14, (hs_ne _ _ (by decide)).trans w15, (hs_ne _ _ (by decide)).trans w16, (hs_ne _ _ (by decide)).trans w17, (hs_ne _ _ (by decide)).trans w18, (hs_ne _ _ (by decide)).trans w19, (hs_ne _ _ (by decide)).trans w20, (hs_ne _ _ (by decide)).trans w21⟩
theorem MW.s0 (w : MW h s ar) (f : Nat → Int32) : MW (ix_set h 97 (.inl (.int, 4200, .inl f))) s (va_up ar 0 f) := by
  obtain ⟨w0, w1, w2, w3, w4, w5, w6, w7, w8, w9, w10, w11, w12, w13, w14, w15, w16, w17, w18, w19, w20, w21⟩ := w
  exact ⟨(hs_ne _ _ (by decide)).trans w0, hs_same _ _ _, (hs_ne _ _ (by decide)).trans w2, (hs_ne _ _ (by decide)).trans w3, (hs_ne _ _ (by decide)).trans w4, (hs_ne _ _ (by decide)).trans w5, (hs_ne _ _ (by decide)).trans w6, (hs_ne _ _ (by decide)).trans w7, (hs_ne _ _ (by decide)).trans w8, (hs_ne _ _ (by decide)).trans w9, (hs_ne _ _ (by decide)).trans w10, (hs_ne _ _ (by decide)).trans w11, (hs_ne _ _ (by decide)).trans w12, (hs_ne _ _ (by decide)).trans w13, (hs_ne _ _ (by decide)).trans w14, (hs_ne _ _ (by decide)).trans w15, (hs_ne _ _ (by decide)).trans w16, (hs_ne _ _ (by decide)).trans w17, (hs_ne _ _ (by decide)).trans w18, (hs_ne _ _ (by decide)).trans w19, (hs_ne _ _ (by decide)).trans w20, (hs_ne _ _ (by decide)).trans w21⟩
theorem MW.s1 (w : MW h s ar) (f : Nat → Int32) : MW (ix_set h 98 (.inl (.int, 4200, .inl f))) s (va_up ar 1 f) := by
  obtain ⟨w0, w1, w2, w3, w4, w5, w6, w7, w8, w9, w10, w11, w12, w13, w14, w15, w16, w17, w18, w19, w20, w21⟩ := w
  exact ⟨(hs_ne _ _ (by decide)).trans w0, (hs_ne _ _ (by decide)).trans w1, hs_same _ _ _, (hs_ne _ _ (by decide)).trans w3, (hs_ne _ _ (by decide)).trans w4, (hs_ne _ _ (by decide)).trans w5, (hs_ne _ _ (by decide)).trans w6, (hs_ne _ _ (by decide)).trans w7, (hs_ne _ _ (by decide)).trans w8, (hs_ne _ _ (by decide)).trans w9, (hs_ne _ _ (by decide)).trans w10, (hs_ne _ _ (by decide)).trans w11, (hs_ne _ _ (by decide)).trans w12, (hs_ne _ _ (by decide)).trans w13, (hs_ne _ _ (by decide)).trans w14, (hs_ne _ _ (by decide)).trans w15, (hs_ne _ _ (by decide)).trans w16, (hs_ne _ _ (by decide)).trans w17, (hs_ne _ _ (by decide)).trans w18, (hs_ne _ _ (by decide)).trans w19, (hs_ne _ _ (by decide)).trans w20, (hs_ne _ _ (by decide)).trans w21⟩
theorem MW.s2 (w : MW h s ar) (f : Nat → Int32) : MW (ix_set h 99 (.inl (.int, 4200, .inl f))) s (va_up ar 2 f) := by
  obtain ⟨w0, w1, w2, w3, w4, w5, w6, w7, w8, w9, w10, w11, w12, w13, w14, w15, w16, w17, w18, w19, w20, w21⟩ := w
  exact ⟨(hs_ne _ _ (by decide)).trans w0, (hs_ne _ _ (by decide)).trans w1, (hs_ne _ _ (by decide)).trans w2, hs_same _ _ _, (hs_ne _ _ (by decide)).trans w4, (hs_ne _ _ (by decide)).trans w5, (hs_ne _ _ (by decide)).trans w6, (hs_ne _ _ (by decide)).trans w7, (hs_ne _ _ (by decide)).trans w8, (hs_ne _ _ (by decide)).trans w9, (hs_ne _ _ (by decide)).trans w10, (hs_ne _ _ (by decide)).trans w11, (hs_ne _ _ (by decide)).trans w12, (hs_ne _ _ (by decide)).trans w13, (hs_ne _ _ (by decide)).trans w14, (hs_ne _ _ (by decide)).trans w15, (hs_ne _ _ (by decide)).trans w16, (hs_ne _ _ (by decide)).trans w17, (hs_ne _ _ (by decide)).trans w18, (hs_ne _ _ (by decide)).trans w19, (hs_ne _ _ (by decide)).trans w20, (hs_ne _ _ (by decide)).trans w21⟩
theorem MW.s3 (w : MW h s ar) (f : Nat → Int32) : MW (ix_set h 100 (.inl (.int, 4200, .inl f))) s (va_up ar 3 f) := by
  obtain ⟨w0, w1, w2, w3, w4, w5, w6, w7, w8, w9, w10, w11, w12, w13, w14, w15, w16, w17, w18, w19, w20, w21⟩ := w
  exact ⟨(hs_ne _ _ (by decide)).trans w0, (hs_ne _ _ (by decide)).trans w1, (hs_ne _ _ (by decide)).trans w2, (hs_ne _ _ (by decide)).trans w3, hs_same _ _ _, (hs_ne _ _ (by decide)).trans w5, (hs_ne _ _ (by decide)).trans w6, (hs_ne _ _ (by decide)).trans w7, (hs_ne _ _ (by decide)).trans w8, (hs_ne _ _ (by decide)).trans w9, (hs_ne _ _ (by decide)).trans w10, (hs_ne _ _ (by decide)).trans w11, (hs_ne _ _ (by decide)).trans w12, (hs_ne _ _ (by decide)).trans w13, (hs_ne _ _ (by decide)).trans w14, (hs_ne _ _ (by decide)).trans w15, (hs_ne _ _ (by decide)).trans w16, (hs_ne _ _ (by decide)).trans w17, (hs_ne _ _ (by decide)).trans w18, (hs_ne _ _ (by decide)).trans w19, (hs_ne _ _ (by decide)).trans w20, (hs_ne _ _ (by decide)).trans w21⟩
theorem MW.s4 (w : MW h s ar) (f : Nat → Int32) : MW (ix_set h 101 (.inl (.int, 4200, .inl f))) s (va_up ar 4 f) := by
  obtain ⟨w0, w1, w2, w3, w4, w5, w6, w7, w8, w9, w10, w11, w12, w13, w14, w15, w16, w17, w18, w19, w20, w21⟩ := w
  exact ⟨(hs_ne _ _ (by decide)).trans w0, (hs_ne _ _ (by decide)).trans w1, (hs_ne _ _ (by decide)).trans w2, (hs_ne _ _ (by decide)).trans w3, (hs_ne _ _ (by decide)).trans w4, hs_same _ _ _, (hs_ne _ _ (by decide)).trans w6, (hs_ne _ _ (by decide)).trans w7, (hs_ne _ _ (by decide)).trans w8, (hs_ne _ _ (by decide)).trans w9, (hs_ne _ _ (by decide)).trans w10, (hs_ne _ _ (by decide)).trans w11, (hs_ne _ _ (by decide)).trans w12, (hs_ne _ _ (by decide)).trans w13, (hs_ne _ _ (by decide)).trans w14, (hs_ne _ _ (by decide)).trans w15, (hs_ne _ _ (by decide)).trans w16, (hs_ne _ _ (by decide)).trans w17, (hs_ne _ _ (by decide)).trans w18, (hs_ne _ _ (by decide)).trans w19, (hs_ne _ _ (by decide)).trans w20, (hs_ne _ _ (by decide)).trans w21⟩
theorem MW.s5 (w : MW h s ar) (f : Nat → Int32) : MW (ix_set h 102 (.inl (.int, 4200, .inl f))) s (va_up ar 5 f) := by
  obtain ⟨w0, w1, w2, w3, w4, w5, w6, w7, w8, w9, w10, w11, w12, w13, w14, w15, w16, w17, w18, w19, w20, w21⟩ := w
  exact ⟨(hs_ne _ _ (by decide)).trans w0, (hs_ne _ _ (by decide)).trans w1, (hs_ne _ _ (by decide)).trans w2, (hs_ne _ _ (by decide)).trans w3, (hs_ne _ _ (by decide)).trans w4, (hs_ne _ _ (by decide)).trans w5, hs_same _ _ _, (hs_ne _ _ (by decide)).trans w7, (hs_ne _ _ (by decide)).trans w8, (hs_ne _ _ (by decide)).trans w9, (hs_ne _ _ (by decide)).trans w10, (hs_ne _ _ (by decide)).trans w11, (hs_ne _ _ (by decide)).trans w12, (hs_ne _ _ (by decide)).trans w13, (hs_ne _ _ (by decide)).trans w14, (hs_ne _ _ (by decide)).trans w15, (hs_ne _ _ (by decide)).trans w16, (hs_ne _ _ (by decide)).trans w17, (hs_ne _ _ (by decide)).trans w18, (hs_ne _ _ (by decide)).trans w19, (hs_ne _ _ (by decide)).trans w20, (hs_ne _ _ (by decide)).trans w21⟩
theorem MW.s6 (w : MW h s ar) (f : Nat → Int32) : MW (ix_set h 103 (.inl (.int, 4200, .inl f))) s (va_up ar 6 f) := by
  obtain ⟨w0, w1, w2, w3, w4, w5, w6, w7, w8, w9, w10, w11, w12, w13, w14, w15, w16, w17, w18, w19, w20, w21⟩ := w
  exact ⟨(hs_ne _ _ (by decide)).trans w0, (hs_ne _ _ (by decide)).trans w1, (hs_ne _ _ (by decide)).trans w2, (hs_ne _ _ (by decide)).trans w3, (hs_ne _ _ (by decide)).trans w4, (hs_ne _ _ (by decide)).trans w5, (hs_ne _ _ (by decide)).trans w6, hs_same _ _ _, (hs_ne _ _ (by decide)).trans w8, (hs_ne _ _ (by decide)).trans w9, (hs_ne _ _ (by decide)).trans w10, (hs_ne _ _ (by decide)).trans w11, (hs_ne _ _ (by decide)).trans w12, (hs_ne _ _ (by decide)).trans w13, (hs_ne _ _ (by decide)).trans w14, (hs_ne _ _ (by decide)).trans w15, (hs_ne _ _ (by decide)).trans w16, (hs_ne _ _ (by decide)).trans w17, (hs_ne _ _ (by decide)).trans w18, (hs_ne _ _ (by decide)).trans w19, (hs_ne _ _ (by decide)).trans w20, (hs_ne _ _ (by decide)).trans w21⟩
theorem MW.s7 (w : MW h s ar) (f : Nat → Int32) : MW (ix_set h 104 (.inl (.byte, 168000, .inl f))) s (va_up ar 7 f) := by
  obtain ⟨w0, w1, w2, w3, w4, w5, w6, w7, w8, w9, w10, w11, w12, w13, w14, w15, w16, w17, w18, w19, w20, w21⟩ := w
  exact ⟨(hs_ne _ _ (by decide)).trans w0, (hs_ne _ _ (by decide)).trans w1, (hs_ne _ _ (by decide)).trans w2, (hs_ne _ _ (by decide)).trans w3, (hs_ne _ _ (by decide)).trans w4, (hs_ne _ _ (by decide)).trans w5, (hs_ne _ _ (by decide)).trans w6, (hs_ne _ _ (by decide)).trans w7, hs_same _ _ _, (hs_ne _ _ (by decide)).trans w9, (hs_ne _ _ (by decide)).trans w10, (hs_ne _ _ (by decide)).trans w11, (hs_ne _ _ (by decide)).trans w12, (hs_ne _ _ (by decide)).trans w13, (hs_ne _ _ (by decide)).trans w14, (hs_ne _ _ (by decide)).trans w15, (hs_ne _ _ (by decide)).trans w16, (hs_ne _ _ (by decide)).trans w17, (hs_ne _ _ (by decide)).trans w18, (hs_ne _ _ (by decide)).trans w19, (hs_ne _ _ (by decide)).trans w20, (hs_ne _ _ (by decide)).trans w21⟩
theorem MW.s8 (w : MW h s ar) (f : Nat → Int32) : MW (ix_set h 105 (.inl (.boolean, 32, .inl f))) s (va_up ar 8 f) := by
  obtain ⟨w0, w1, w2, w3, w4, w5, w6, w7, w8, w9, w10, w11, w12, w13, w14, w15, w16, w17, w18, w19, w20, w21⟩ := w
  exact ⟨(hs_ne _ _ (by decide)).trans w0, (hs_ne _ _ (by decide)).trans w1, (hs_ne _ _ (by decide)).trans w2, (hs_ne _ _ (by decide)).trans w3, (hs_ne _ _ (by decide)).trans w4, (hs_ne _ _ (by decide)).trans w5, (hs_ne _ _ (by decide)).trans w6, (hs_ne _ _ (by decide)).trans w7, (hs_ne _ _ (by decide)).trans w8, hs_same _ _ _, (hs_ne _ _ (by decide)).trans w10, (hs_ne _ _ (by decide)).trans w11, (hs_ne _ _ (by decide)).trans w12, (hs_ne _ _ (by decide)).trans w13, (hs_ne _ _ (by decide)).trans w14, (hs_ne _ _ (by decide)).trans w15, (hs_ne _ _ (by decide)).trans w16, (hs_ne _ _ (by decide)).trans w17, (hs_ne _ _ (by decide)).trans w18, (hs_ne _ _ (by decide)).trans w19, (hs_ne _ _ (by decide)).trans w20, (hs_ne _ _ (by decide)).trans w21⟩
theorem MW.s9 (w : MW h s ar) (f : Nat → Int32) : MW (ix_set h 106 (.inl (.int, 32, .inl f))) s (va_up ar 9 f) := by
  obtain ⟨w0, w1, w2, w3, w4, w5, w6, w7, w8, w9, w10, w11, w12, w13, w14, w15, w16, w17, w18, w19, w20, w21⟩ := w
  exact ⟨(hs_ne _ _ (by decide)).trans w0, (hs_ne _ _ (by decide)).trans w1, (hs_ne _ _ (by decide)).trans w2, (hs_ne _ _ (by decide)).trans w3, (hs_ne _ _ (by decide)).trans w4, (hs_ne _ _ (by decide)).trans w5, (hs_ne _ _ (by decide)).trans w6, (hs_ne _ _ (by decide)).trans w7, (hs_ne _ _ (by decide)).trans w8, (hs_ne _ _ (by decide)).trans w9, hs_same _ _ _, (hs_ne _ _ (by decide)).trans w11, (hs_ne _ _ (by decide)).trans w12, (hs_ne _ _ (by decide)).trans w13, (hs_ne _ _ (by decide)).trans w14, (hs_ne _ _ (by decide)).trans w15, (hs_ne _ _ (by decide)).trans w16, (hs_ne _ _ (by decide)).trans w17, (hs_ne _ _ (by decide)).trans w18, (hs_ne _ _ (by decide)).trans w19, (hs_ne _ _ (by decide)).trans w20, (hs_ne _ _ (by decide)).trans w21⟩
theorem MW.s10 (w : MW h s ar) (f : Nat → Int32) : MW (ix_set h 107 (.inl (.int, 32, .inl f))) s (va_up ar 10 f) := by
  obtain ⟨w0, w1, w2, w3, w4, w5, w6, w7, w8, w9, w10, w11, w12, w13, w14, w15, w16, w17, w18, w19, w20, w21⟩ := w
  exact ⟨(hs_ne _ _ (by decide)).trans w0, (hs_ne _ _ (by decide)).trans w1, (hs_ne _ _ (by decide)).trans w2, (hs_ne _ _ (by decide)).trans w3, (hs_ne _ _ (by decide)).trans w4, (hs_ne _ _ (by decide)).trans w5, (hs_ne _ _ (by decide)).trans w6, (hs_ne _ _ (by decide)).trans w7, (hs_ne _ _ (by decide)).trans w8, (hs_ne _ _ (by decide)).trans w9, (hs_ne _ _ (by decide)).trans w10, hs_same _ _ _, (hs_ne _ _ (by decide)).trans w12, (hs_ne _ _ (by decide)).trans w13, (hs_ne _ _ (by decide)).trans w14, (hs_ne _ _ (by decide)).trans w15, (hs_ne _ _ (by decide)).trans w16, (hs_ne _ _ (by decide)).trans w17, (hs_ne _ _ (by decide)).trans w18, (hs_ne _ _ (by decide)).trans w19, (hs_ne _ _ (by decide)).trans w20, (hs_ne _ _ (by decide)).trans w21⟩
theorem MW.s11 (w : MW h s ar) (f : Nat → Int32) : MW (ix_set h 108 (.inl (.int, 32, .inl f))) s (va_up ar 11 f) := by
  obtain ⟨w0, w1, w2, w3, w4, w5, w6, w7, w8, w9, w10, w11, w12, w13, w14, w15, w16, w17, w18, w19, w20, w21⟩ := w
  exact ⟨(hs_ne _ _ (by decide)).trans w0, (hs_ne _ _ (by decide)).trans w1, (hs_ne _ _ (by decide)).trans w2, (hs_ne _ _ (by decide)).trans w3, (hs_ne _ _ (by decide)).trans w4, (hs_ne _ _ (by decide)).trans w5, (hs_ne _ _ (by decide)).trans w6, (hs_ne _ _ (by decide)).trans w7, (hs_ne _ _ (by decide)).trans w8, (hs_ne _ _ (by decide)).trans w9, (hs_ne _ _ (by decide)).trans w10, (hs_ne _ _ (by decide)).trans w11, hs_same _ _ _, (hs_ne _ _ (by decide)).trans w13, (hs_ne _ _ (by decide)).trans w14, (hs_ne _ _ (by decide)).trans w15, (hs_ne _ _ (by decide)).trans w16, (hs_ne _ _ (by decide)).trans w17, (hs_ne _ _ (by decide)).trans w18, (hs_ne _ _ (by decide)).trans w19, (hs_ne _ _ (by decide)).trans w20, (hs_ne _ _ (by decide)).trans w21⟩
theorem MW.s12 (w : MW h s ar) (f : Nat → Int32) : MW (ix_set h 109 (.inl (.int, 32, .inl f))) s (va_up ar 12 f) := by
  obtain ⟨w0, w1, w2, w3, w4, w5, w6, w7, w8, w9, w10, w11, w12, w13, w14, w15, w16, w17, w18, w19, w20, w21⟩ := w
  exact ⟨(hs_ne _ _ (by decide)).trans w0, (hs_ne _ _ (by decide)).trans w1, (hs_ne _ _ (by decide)).trans w2, (hs_ne _ _ (by decide)).trans w3, (hs_ne _ _ (by decide)).trans w4, (hs_ne _ _ (by decide)).trans w5, (hs_ne _ _ (by decide)).trans w6, (hs_ne _ _ (by decide)).trans w7, (hs_ne _ _ (by decide)).trans w8, (hs_ne _ _ (by decide)).trans w9, (hs_ne _ _ (by decide)).trans w10, (hs_ne _ _ (by decide)).trans w11, (hs_ne _ _ (by decide)).trans w12, hs_same _ _ _, (hs_ne _ _ (by decide)).trans w14, (hs_ne _ _ (by decide)).trans w15, (hs_ne _ _ (by decide)).trans w16, (hs_ne _ _ (by decide)).trans w17, (hs_ne _ _ (by decide)).trans w18, (hs_ne _ _ (by decide)).trans w19, (hs_ne _ _ (by decide)).trans w20, (hs_ne _ _ (by decide)).trans w21⟩
theorem MW.s13 (w : MW h s ar) (f : Nat → Int32) : MW (ix_set h 110 (.inl (.int, 64, .inl f))) s (va_up ar 13 f) := by
  obtain ⟨w0, w1, w2, w3, w4, w5, w6, w7, w8, w9, w10, w11, w12, w13, w14, w15, w16, w17, w18, w19, w20, w21⟩ := w
  exact ⟨(hs_ne _ _ (by decide)).trans w0, (hs_ne _ _ (by decide)).trans w1, (hs_ne _ _ (by decide)).trans w2, (hs_ne _ _ (by decide)).trans w3, (hs_ne _ _ (by decide)).trans w4, (hs_ne _ _ (by decide)).trans w5, (hs_ne _ _ (by decide)).trans w6, (hs_ne _ _ (by decide)).trans w7, (hs_ne _ _ (by decide)).trans w8, (hs_ne _ _ (by decide)).trans w9, (hs_ne _ _ (by decide)).trans w10, (hs_ne _ _ (by decide)).trans w11, (hs_ne _ _ (by decide)).trans w12, (hs_ne _ _ (by decide)).trans w13, hs_same _ _ _, (hs_ne _ _ (by decide)).trans w15, (hs_ne _ _ (by decide)).trans w16, (hs_ne _ _ (by decide)).trans w17, (hs_ne _ _ (by decide)).trans w18, (hs_ne _ _ (by decide)).trans w19, (hs_ne _ _ (by decide)).trans w20, (hs_ne _ _ (by decide)).trans w21⟩
theorem MW.s14 (w : MW h s ar) (f : Nat → Int32) : MW (ix_set h 111 (.inl (.int, 1100, .inl f))) s (va_up ar 14 f) := by
  obtain ⟨w0, w1, w2, w3, w4, w5, w6, w7, w8, w9, w10, w11, w12, w13, w14, w15, w16, w17, w18, w19, w20, w21⟩ := w
  exact ⟨(hs_ne _ _ (by decide)).trans w0, (hs_ne _ _ (by decide)).trans w1, (hs_ne _ _ (by decide)).trans w2, (hs_ne _ _ (by decide)).trans w3, (hs_ne _ _ (by decide)).trans w4, (hs_ne _ _ (by decide)).trans w5, (hs_ne _ _ (by decide)).trans w6, (hs_ne _ _ (by decide)).trans w7, (hs_ne _ _ (by decide)).trans w8, (hs_ne _ _ (by decide)).trans w9, (hs_ne _ _ (by decide)).trans w10, (hs_ne _ _ (by decide)).trans w11, (hs_ne _ _ (by decide)).trans w12, (hs_ne _ _ (by decide)).trans w13, (hs_ne _ _ (by decide)).trans w14, hs_same _ _ _, (hs_ne _ _ (by decide)).trans w16, (hs_ne _ _ (by decide)).trans w17, (hs_ne _ _ (by decide)).trans w18, (hs_ne _ _ (by decide)).trans w19, (hs_ne _ _ (by decide)).trans w20, (hs_ne _ _ (by decide)).trans w21⟩
theorem MW.s15 (w : MW h s ar) (f : Nat → Int32) : MW (ix_set h 112 (.inl (.int, 1100, .inl f))) s (va_up ar 15 f) := by
  obtain ⟨w0, w1, w2, w3, w4, w5, w6, w7, w8, w9, w10, w11, w12, w13, w14, w15, w16, w17, w18, w19, w20, w21⟩ := w
  exact ⟨(hs_ne _ _ (by decide)).trans w0, (hs_ne _ _ (by decide)).trans w1, (hs_ne _ _ (by decide)).trans w2, (hs_ne _ _ (by decide)).trans w3, (hs_ne _ _ (by decide)).trans w4, (hs_ne _ _ (by decide)).trans w5, (hs_ne _ _ (by decide)).trans w6, (hs_ne _ _ (by decide)).trans w7, (hs_ne _ _ (by decide)).trans w8, (hs_ne _ _ (by decide)).trans w9, (hs_ne _ _ (by decide)).trans w10, (hs_ne _ _ (by decide)).trans w11, (hs_ne _ _ (by decide)).trans w12, (hs_ne _ _ (by decide)).trans w13, (hs_ne _ _ (by decide)).trans w14, (hs_ne _ _ (by decide)).trans w15, hs_same _ _ _, (hs_ne _ _ (by decide)).trans w17, (hs_ne _ _ (by decide)).trans w18, (hs_ne _ _ (by decide)).trans w19, (hs_ne _ _ (by decide)).trans w20, (hs_ne _ _ (by decide)).trans w21⟩
theorem MW.s16 (w : MW h s ar) (f : Nat → Int32) : MW (ix_set h 113 (.inl (.int, 1100, .inl f))) s (va_up ar 16 f) := by
  obtain ⟨w0, w1, w2, w3, w4, w5, w6, w7, w8, w9, w10, w11, w12, w13, w14, w15, w16, w17, w18, w19, w20, w21⟩ := w
  exact ⟨(hs_ne _ _ (by decide)).trans w0, (hs_ne _ _ (by decide)).trans w1, (hs_ne _ _ (by decide)).trans w2, (hs_ne _ _ (by decide)).trans w3, (hs_ne _ _ (by decide)).trans w4, (hs_ne _ _ (by decide)).trans w5, (hs_ne _ _ (by decide)).trans w6, (hs_ne _ _ (by decide)).trans w7, (hs_ne _ _ (by decide)).trans w8, (hs_ne _ _ (by decide)).trans w9, (hs_ne _ _ (by decide)).trans w10, (hs_ne _ _ (by decide)).trans w11, (hs_ne _ _ (by decide)).trans w12, (hs_ne _ _ (by decide)).trans w13, (hs_ne _ _ (by decide)).trans w14, (hs_ne _ _ (by decide)).trans w15, (hs_ne _ _ (by decide)).trans w16, hs_same _ _ _, (hs_ne _ _ (by decide)).trans w18, (hs_ne _ _ (by decide)).trans w19, (hs_ne _ _ (by decide)).trans w20, (hs_ne _ _ (by decide)).trans w21⟩
theorem MW.s17 (w : MW h s ar) (f : Nat → Int32) : MW (ix_set h 114 (.inl (.int, 1100, .inl f))) s (va_up ar 17 f) := by
  obtain ⟨w0, w1, w2, w3, w4, w5, w6, w7, w8, w9, w10, w11, w12, w13, w14, w15, w16, w17, w18, w19, w20, w21⟩ := w
  exact ⟨(hs_ne _ _ (by decide)).trans w0, (hs_ne _ _ (by decide)).trans w1, (hs_ne _ _ (by decide)).trans w2, (hs_ne _ _ (by decide)).trans w3, (hs_ne _ _ (by decide)).trans w4, (hs_ne _ _ (by decide)).trans w5, (hs_ne _ _ (by decide)).trans w6, (hs_ne _ _ (by decide)).trans w7, (hs_ne _ _ (by decide)).trans w8, (hs_ne _ _ (by decide)).trans w9, (hs_ne _ _ (by decide)).trans w10, (hs_ne _ _ (by decide)).trans w11, (hs_ne _ _ (by decide)).trans w12, (hs_ne _ _ (by decide)).trans w13, (hs_ne _ _ (by decide)).trans w14, (hs_ne _ _ (by decide)).trans w15, (hs_ne _ _ (by decide)).trans w16, (hs_ne _ _ (by decide)).trans w17, hs_same _ _ _, (hs_ne _ _ (by decide)).trans w19, (hs_ne _ _ (by decide)).trans w20, (hs_ne _ _ (by decide)).trans w21⟩
theorem MW.s18 (w : MW h s ar) (f : Nat → Int32) : MW (ix_set h 115 (.inl (.byte, 40, .inl f))) s (va_up ar 18 f) := by
  obtain ⟨w0, w1, w2, w3, w4, w5, w6, w7, w8, w9, w10, w11, w12, w13, w14, w15, w16, w17, w18, w19, w20, w21⟩ := w
  exact ⟨(hs_ne _ _ (by decide)).trans w0, (hs_ne _ _ (by decide)).trans w1, (hs_ne _ _ (by decide)).trans w2, (hs_ne _ _ (by decide)).trans w3, (hs_ne _ _ (by decide)).trans w4, (hs_ne _ _ (by decide)).trans w5, (hs_ne _ _ (by decide)).trans w6, (hs_ne _ _ (by decide)).trans w7, (hs_ne _ _ (by decide)).trans w8, (hs_ne _ _ (by decide)).trans w9, (hs_ne _ _ (by decide)).trans w10, (hs_ne _ _ (by decide)).trans w11, (hs_ne _ _ (by decide)).trans w12, (hs_ne _ _ (by decide)).trans w13, (hs_ne _ _ (by decide)).trans w14, (hs_ne _ _ (by decide)).trans w15, (hs_ne _ _ (by decide)).trans w16, (hs_ne _ _ (by decide)).trans w17, (hs_ne _ _ (by decide)).trans w18, hs_same _ _ _, (hs_ne _ _ (by decide)).trans w20, (hs_ne _ _ (by decide)).trans w21⟩
theorem MW.s19 (w : MW h s ar) (f : Nat → Int32) : MW (ix_set h 116 (.inl (.byte, 40, .inl f))) s (va_up ar 19 f) := by
  obtain ⟨w0, w1, w2, w3, w4, w5, w6, w7, w8, w9, w10, w11, w12, w13, w14, w15, w16, w17, w18, w19, w20, w21⟩ := w
  exact ⟨(hs_ne _ _ (by decide)).trans w0, (hs_ne _ _ (by decide)).trans w1, (hs_ne _ _ (by decide)).trans w2, (hs_ne _ _ (by decide)).trans w3, (hs_ne _ _ (by decide)).trans w4, (hs_ne _ _ (by decide)).trans w5, (hs_ne _ _ (by decide)).trans w6, (hs_ne _ _ (by decide)).trans w7, (hs_ne _ _ (by decide)).trans w8, (hs_ne _ _ (by decide)).trans w9, (hs_ne _ _ (by decide)).trans w10, (hs_ne _ _ (by decide)).trans w11, (hs_ne _ _ (by decide)).trans w12, (hs_ne _ _ (by decide)).trans w13, (hs_ne _ _ (by decide)).trans w14, (hs_ne _ _ (by decide)).trans w15, (hs_ne _ _ (by decide)).trans w16, (hs_ne _ _ (by decide)).trans w17, (hs_ne _ _ (by decide)).trans w18, (hs_ne _ _ (by decide)).trans w19, hs_same _ _ _, (hs_ne _ _ (by decide)).trans w21⟩
theorem MW.s20 (w : MW h s ar) (f : Nat → Int32) : MW (ix_set h 117 (.inl (.int, 1100, .inl f))) s (va_up ar 20 f) := by
  obtain ⟨w0, w1, w2, w3, w4, w5, w6, w7, w8, w9, w10, w11, w12, w13, w14, w15, w16, w17, w18, w19, w20, w21⟩ := w
  exact ⟨(hs_ne _ _ (by decide)).trans w0, (hs_ne _ _ (by decide)).trans w1, (hs_ne _ _ (by decide)).trans w2, (hs_ne _ _ (by decide)).trans w3, (hs_ne _ _ (by decide)).trans w4, (hs_ne _ _ (by decide)).trans w5, (hs_ne _ _ (by decide)).trans w6, (hs_ne _ _ (by decide)).trans w7, (hs_ne _ _ (by decide)).trans w8, (hs_ne _ _ (by decide)).trans w9, (hs_ne _ _ (by decide)).trans w10, (hs_ne _ _ (by decide)).trans w11, (hs_ne _ _ (by decide)).trans w12, (hs_ne _ _ (by decide)).trans w13, (hs_ne _ _ (by decide)).trans w14, (hs_ne _ _ (by decide)).trans w15, (hs_ne _ _ (by decide)).trans w16, (hs_ne _ _ (by decide)).trans w17, (hs_ne _ _ (by decide)).trans w18, (hs_ne _ _ (by decide)).trans w19, (hs_ne _ _ (by decide)).trans w20, hs_same _ _ _⟩
/-- the cells of the reference -/
def cM (k : Nat) : Prop := 96 ≤ k ∧ k ≠ 117
theorem FS.m {k : Nat} (x : ix_E) (hk : 96 ≤ k ∧ k ≠ 117) : FS cM h (ix_set h k x) := FS.of (Fr.set _ (List.mem_singleton.mpr rfl)) (by intro z hz; simp at hz; subst hz; exact hk)
/-- the arrays hold an entry at a place -/
def AtA (ar : Nat → Nat → Int32) (i : Nat) (e : En) : Prop := ar 0 i = nI (eF e) ∧ ar 1 i = nI (eK e) ∧ ar 2 i = nI (eY e) ∧ ar 3 i = nI (eE e) ∧ ar 4 i = nI (eA e) ∧ ar 5 i = nI (eB e) ∧ ar 6 i = nI (eO e) - nI 1 ∧ ∀ x, x < (eP e).length → ar 7 (40 * i + x) = sg ((eP e).getD x 0)
/-- the arrays hold a list of entries -/
def EA (P : Nat) (ar : Nat → Nat → Int32) (X : List En) : Prop := X.length ≤ 4200 ∧ (∀ e ∈ X, okM P e) ∧ ∀ i, i < X.length → AtA ar i (X.getD i en0)
/-- the arrays tell what the book tells -/
def TR (ar : Nat → Nat → Int32) : TS → Prop
  | (_, ep, tx, bg, _, ad, _, _, mq, nx, la, en) => (∀ k, k < 32 → ar 8 k = b01 (!decide (ep k = 0)) ∧ (ep k ≠ 0 → ar 9 k = nI (ep k - 1)) ∧ ar 10 k = m1 (tx k) ∧ (tx k ≠ 0 → ar 11 k = m1 (bg k)) ∧ ar 12 k = ad k) ∧ (∀ i, i < 64 → ar 13 i = m1 (mq i)) ∧ (∀ t, t < nx → ar 14 t = nI (en t)) ∧ (∀ i, i < la.length → ar 15 i = nI (la.getD i (0, 0, 0)).1 ∧ ar 16 i = nI (la.getD i (0, 0, 0)).2.1 ∧ ar 17 i = nI (la.getD i (0, 0, 0)).2.2)
/-- THE REFERENCE'S CELLS OUT OF THE ABSTRACT STATE -/
def RE (h : ix_H) (P cap tmo clk : Nat) (cl : Bool) (cut : Nat) (X : List En) (sy torn : Nat) (tE : En) (tp an : List Nat) : TS → Prop
  | (n, ep, tx, bg, ba, ad, lc, de, mq, nx, la, en) => ∃ ar, MW h (P, cap, tmo, clk, cl, cut, X.length, sy, torn, nx, la.length, tp.length, an.length) ar ∧ EA P ar X ∧ (0 < torn → AtA ar X.length tE) ∧ TR ar (n, ep, tx, bg, ba, ad, lc, de, mq, nx, la, en) ∧ (∀ i, i < tp.length → ar 18 i = sg (tp.getD i 0)) ∧ (∀ i, i < an.length → ar 19 i = sg (an.getD i 0))
def RS (h : ix_H) : SS → Prop
  | (P, cap, tmo, clk, cl, cut, X, sy, torn, tE, tp, an) => RE h P cap tmo clk cl cut X sy torn tE tp an (tS cl P X)
/-- the arrays with one entry more -/
def addA (ar : Nat → Nat → Int32) (j : Nat) (f K k E a b : Int32) : Nat → Nat → Int32 := va_up (va_up (va_up (va_up (va_up (va_up (va_up ar 0 (upd (ar 0) j f)) 1 (upd (ar 1) j K)) 2 (upd (ar 2) j k)) 3 (upd (ar 3) j E)) 4 (upd (ar 4) j a)) 5 (upd (ar 5) j b)) 6 (upd (ar 6) j (-1))
theorem addA_ge {j i : Nat} {f K k E a b : Int32} (hi : 7 ≤ i) : addA ar j f K k E a b i = ar i := by
  unfold addA
  rw [va_up_ne _ _ (by omega), va_up_ne _ _ (by omega), va_up_ne _ _ (by omega), va_up_ne _ _ (by omega), va_up_ne _ _ (by omega), va_up_ne _ _ (by omega), va_up_ne _ _ (by omega)]
theorem upd_s {f : Nat → Int32} {j : Nat} {v : Int32} : upd f j v j = v := by simp [upd]
theorem upd_n {f : Nat → Int32} {i j : Nat} {v : Int32} (h : i ≠ j) : upd f j v i = f i := by simp only [upd]; rw [if_neg h]
theorem addA_at {j : Nat} {f K k E a b : Int32} : addA ar j f K k E a b 0 j = f ∧ addA ar j f K k E a b 1 j = K ∧ addA ar j f K k E a b 2 j = k ∧ addA ar j f K k E a b 3 j = E ∧ addA ar j f K k E a b 4 j = a ∧ addA ar j f K k E a b 5 j = b ∧ addA ar j f K k E a b 6 j = -1 := by
  unfold addA
  refine ⟨?_, ?_, ?_, ?_, ?_, ?_, ?_⟩ <;> simp [va_up, upd]
theorem addA_ne {j i q : Nat} {f K k E a b : Int32} (h : i ≠ j) : addA ar j f K k E a b q i = ar q i := by
  by_cases z : 7 ≤ q
  · rw [addA_ge z]
  · unfold addA
    rcases (by omega : q = 0 ∨ q = 1 ∨ q = 2 ∨ q = 3 ∨ q = 4 ∨ q = 5 ∨ q = 6) with y | y | y | y | y | y | y <;> subst y <;> simp [va_up, upd, h]
theorem AtA_ne {j i : Nat} {f K k E a b : Int32} {e : En} (h : i ≠ j) (hA : AtA ar i e) : AtA (addA ar j f K k E a b) i e := by
  obtain ⟨a0, a1, a2, a3, a4, a5, a6, a7⟩ := hA
  refine ⟨?_, ?_, ?_, ?_, ?_, ?_, ?_, ?_⟩
  · rw [addA_ne h]; exact a0
  · rw [addA_ne h]; exact a1
  · rw [addA_ne h]; exact a2
  · rw [addA_ne h]; exact a3
  · rw [addA_ne h]; exact a4
  · rw [addA_ne h]; exact a5
  · rw [addA_ne h]; exact a6
  · intro x hx
    rw [addA_ge (by omega)]
    exact a7 x hx
theorem EA_add {P : Nat} {X : List En} {f K k E a b : Nat} (hE : EA P ar X) (hl : X.length < 4200) (hok : okM P (f, K, k, E, a, b, 0, [])) : EA P (addA ar X.length (nI f) (nI K) (nI k) (nI E) (nI a) (nI b)) (X ++ [(f, K, k, E, a, b, 0, [])]) := by
  obtain ⟨h1, h2, h3⟩ := hE
  refine ⟨by rw [List.length_append]; simp; omega, ?_, ?_⟩
  · intro e he
    rcases List.mem_append.mp he with z | z
    · exact h2 e z
    · rw [List.mem_singleton.mp z]; exact hok
  · intro i hi
    by_cases z : i < X.length
    · rw [getD_sn z]
      exact AtA_ne (by omega) (h3 i z)
    · have : i = X.length := by rw [List.length_append] at hi; simp at hi; omega
      subst this
      rw [getD_last]
      obtain ⟨q0, q1, q2, q3, q4, q5, q6⟩ := addA_at (ar := ar) (j := X.length) (f := nI f) (K := nI K) (k := nI k) (E := nI E) (a := nI a) (b := nI b)
      exact ⟨q0, q1, q2, q3, q4, q5, q6.trans (show (-1 : Int32) = nI 0 - nI 1 by decide +kernel), fun x hx => absurd hx (Nat.not_lt_zero x)⟩
theorem TR_add {j : Nat} {f K k E a b : Int32} {T : TS} (hT : TR ar T) : TR (addA ar j f K k E a b) T := by
  obtain ⟨n, ep, tx, bg, ba, ad, lc, de, mq, nx, la, en⟩ := T
  obtain ⟨t1, t2, t3, t4⟩ := hT
  refine ⟨?_, ?_, ?_, ?_⟩
  · intro k hk
    rw [addA_ge (by omega), addA_ge (by omega), addA_ge (by omega), addA_ge (by omega), addA_ge (by omega)]
    exact t1 k hk
  · intro i hi
    rw [addA_ge (by omega)]
    exact t2 i hi
  · intro t ht
    rw [addA_ge (by omega)]
    exact t3 t ht
  · intro i hi
    rw [addA_ge (by omega), addA_ge (by omega), addA_ge (by omega)]
    exact t4 i hi
end MWs
