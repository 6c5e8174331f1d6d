/-! The reference: send -/
section R8
variable {d : Nat} {h : ix_H} {P cap tmo clk cut sy torn : Nat} {cl : Bool} {X : List En} {tE : En} {tp an : List Nat} {T : TS} {ar : Nat → Nat → Int32} {a1 a2 a3 : Nat} {a4 : Bool} {a5 a7 a8 a9 a10 a11 a12 : Nat}
theorem sg_sg (b : Nat) : (sg b).toInt8.toInt32 = sg b := by
  unfold sg
  rw [i8_32]
theorem EA_sn {ar' : Nat → Nat → Int32} {e : En} (hE : EA P ar X) (hl : X.length < 4200) (hok : okM P e) (hs : ∀ q, q ≤ 6 → ∀ i, i < X.length → ar' q i = ar q i) (h7 : ∀ y, y < 40 * X.length → ar' 7 y = ar 7 y) (hat : AtA ar' X.length e) : EA P ar' (X ++ [e]) := by
  obtain ⟨h1, h2, h3⟩ := hE
  refine ⟨by rw [List.length_append]; simp; omega, ?_, ?_⟩
  · intro x hx
    rcases List.mem_append.mp hx with z | z
    · exact h2 x z
    · rw [List.mem_singleton.mp z]; exact hok
  · intro i hi
    by_cases z : i < X.length
    · rw [getD_sn z]
      obtain ⟨b0, b1, b2, b3, b4, b5, b6, b7⟩ := h3 i z
      have hpl := (h2 _ (getD_mem z)).2.2.2.2.2.2.2.2
      refine ⟨?_, ?_, ?_, ?_, ?_, ?_, ?_, ?_⟩
      · rw [hs 0 (by omega) i z]; exact b0
      · rw [hs 1 (by omega) i z]; exact b1
      · rw [hs 2 (by omega) i z]; exact b2
      · rw [hs 3 (by omega) i z]; exact b3
      · rw [hs 4 (by omega) i z]; exact b4
      · rw [hs 5 (by omega) i z]; exact b5
      · rw [hs 6 (by omega) i z]; exact b6
      · intro x hx
        rw [h7 _ (by omega)]
        exact b7 x hx
    · have : i = X.length := by rw [List.length_append] at hi; simp at hi; omega
      subst this
      rw [getD_last]
      exact hat
theorem l_pay {h0 : ix_H} {Q : ix_O → Prop} {e nn : Nat} {l1 l2 l3 l4 l5 : Value} (he : e < 4200) (hn : tp.length = nn) (hn40 : nn ≤ 40) (A : Nat → Nat → Int32) {s : MS} (h18 : ∀ i, i < nn → A 18 i = sg (tp.getD i 0))
    (kk : ∀ h2 g, FS cM h0 h2 → MW h2 s (va_up A 7 g) → (∀ x, x < nn → g (40 * e + x) = sg (tp.getD x 0)) → (∀ y, y < 40 * e → g y = A 7 y) → gs none d mD_X5_send (325, [(0, .ref 96), (10, .int (nI e))], [], h2) Q) :
    ∀ (r i : Nat) (h : ix_H) (g : Nat → Int32), i + r = nn → FS cM h0 h → MW h s (va_up A 7 g) → (∀ x, x < i → g (40 * e + x) = sg (tp.getD x 0)) → (∀ y, y < 40 * e → g y = A 7 y) → gs none d mD_X5_send (292, [(11, .int (nI i)), (0, .ref 96), (6, .int (nI nn)), (10, .int (nI e))], [], h) Q := by
  intro r
  induction r with
  | zero =>
    intro i h g hi hF w h1 h2
    obtain rfl : i = nn := by omega
    refine gs_n 294 a_X5_send_292 rfl ?_
    refine gs_n 296 a_X5_send_294 rfl ?_
    refine gs_ic 325 299 a_X5_send_296 rfl rfl (fun c => ?_) (fun c => ?_)
    · refine gs_w [(0, .ref 96), (10, .int (nI e))] (by simp [ix_nd]) (by intro x hx; simp only [List.mem_cons, List.not_mem_nil, or_false] at hx; rcases hx with rfl | rfl <;> rfl) ?_
      exact kk h g hF w h1 h2
    · exact absurd (nI_le (Nat.le_refl _) (by omega)) c
  | succ r ih =>
    intro i h g hi hF w h1 h2
    have wd := w.s7 (upd g (40 * e + i) (sg (tp.getD i 0)))
    rw [va_idem] at wd
    obtain ⟨w0, w1, w2, w3, w4, w5, w6, w7, w8, w9, w10, w11, w12, w13, w14, w15, w16, w17, w18, w19, -⟩ := w
    simp only [mcell] at w0
    rw [va_up_self] at w8
    rw [va_up_ne _ _ (by decide)] at w19
    refine gs_n 294 a_X5_send_292 rfl ?_
    refine gs_n 296 a_X5_send_294 rfl ?_
    refine gs_ic 325 299 a_X5_send_296 rfl rfl (fun c => ?_) (fun c => ?_)
    · exact absurd c (nI_ge (by omega) (by omega))
    · refine gs_n 300 a_X5_send_299 rfl ?_
      refine gs_get 303 a_X5_send_300 f_5_32 (by first | assumption | exact hs_same _ _ _ | exact (hs_ne _ _ (by first | assumption | decide | omega)).trans (by first | assumption | exact hs_same _ _ _ | exact (hs_ne _ _ (by first | assumption | decide | omega)).trans (by first | assumption | exact hs_same _ _ _ | exact (hs_ne _ _ (by first | assumption | decide | omega)).trans (by first | assumption | exact hs_same _ _ _ | exact (hs_ne _ _ (by first | assumption | decide | omega)).trans (by first | assumption | exact hs_same _ _ _))))) rfl rfl ?_
      refine gs_k (nI 40) 305 a_X5_send_303 (by decide +kernel) rfl ?_
      refine gs_n 307 a_X5_send_305 rfl ?_
      refine gs_n 308 a_X5_send_307 rfl ?_
      refine gs_n 310 a_X5_send_308 rfl ?_
      refine gs_n 311 a_X5_send_310 rfl ?_
      refine gs_n 312 a_X5_send_311 rfl ?_
      refine gs_get 315 a_X5_send_312 f_5_67 (by first | assumption | exact hs_same _ _ _ | exact (hs_ne _ _ (by first | assumption | decide | omega)).trans (by first | assumption | exact hs_same _ _ _ | exact (hs_ne _ _ (by first | assumption | decide | omega)).trans (by first | assumption | exact hs_same _ _ _ | exact (hs_ne _ _ (by first | assumption | decide | omega)).trans (by first | assumption | exact hs_same _ _ _ | exact (hs_ne _ _ (by first | assumption | decide | omega)).trans (by first | assumption | exact hs_same _ _ _))))) rfl rfl ?_
      refine gs_n 317 a_X5_send_315 rfl ?_
      rw [pk_mul, nI_add]
      refine gs_ba i 318 a_X5_send_317 (by first | assumption | exact hs_same _ _ _ | exact (hs_ne _ _ (by first | assumption | decide | omega)).trans (by first | assumption | exact hs_same _ _ _ | exact (hs_ne _ _ (by first | assumption | decide | omega)).trans (by first | assumption | exact hs_same _ _ _ | exact (hs_ne _ _ (by first | assumption | decide | omega)).trans (by first | assumption | exact hs_same _ _ _ | exact (hs_ne _ _ (by first | assumption | decide | omega)).trans (by first | assumption | exact hs_same _ _ _))))) rfl (by omega) (by omega) rfl ?_
      rw [h18 i (by omega)]
      refine gs_bs (40 * e + i) 319 a_X5_send_318 (by first | assumption | exact hs_same _ _ _ | exact (hs_ne _ _ (by first | assumption | decide | omega)).trans (by first | assumption | exact hs_same _ _ _ | exact (hs_ne _ _ (by first | assumption | decide | omega)).trans (by first | assumption | exact hs_same _ _ _ | exact (hs_ne _ _ (by first | assumption | decide | omega)).trans (by first | assumption | exact hs_same _ _ _ | exact (hs_ne _ _ (by first | assumption | decide | omega)).trans (by first | assumption | exact hs_same _ _ _))))) rfl (by omega) (by omega) rfl ?_
      rw [sg_sg]
      first | refine gs_inc _ 322 a_X5_send_319 rfl (Nat.le_of_ble_eq_true rfl) rfl ?_ | refine gs_n 322 a_X5_send_319 rfl ?_
      refine gs_n 292 a_X5_send_322 rfl ?_
      refine gs_w [(11, .int (nI (i + 1))), (0, .ref 96), (6, .int (nI nn)), (10, .int (nI e))] (by simp [ix_nd]) (by intro x hx; simp only [List.mem_cons, List.not_mem_nil, or_false] at hx; rcases hx with rfl | rfl | rfl | rfl <;> rfl) ?_
      refine ih (i + 1) _ _ (by omega) (hF.trans (FS.m _ (by omega))) wd ?_ ?_
      · intro x hx
        by_cases z : x = i
        · subst z; rw [upd_s]
        · rw [upd_n (by omega)]; exact h1 x (by omega)
      · intro y hy
        rw [upd_n (by omega)]
        exact h2 y hy
theorem l_rec {k p E nm kd txk : Nat} {part : Bool} (hk : k < 32) (hE : EA P ar X) (hl : X.length < 4200) (hkd : kd = if part then 1 else 0) (hok : okM P (p, kd, k, E, nm, tp.length, (if part then txk else 0), tp)) (hpt : part = true → ar 10 k = nI txk - nI 1) (h40 : tp.length ≤ 40) (h18 : ∀ i, i < tp.length → ar 18 i = sg (tp.getD i 0)) (w : MW h (P, a1, a2, a3, a4, a5, X.length, a7, a8, a9, a10, a11, a12) ar) :
    gs none (d + 1) mD_X5_send (244, [(0, .ref 96), (1, .int (nI k)), (2, .int (nI E)), (3, .int (nI p)), (4, .int (nI nm)), (5, .int (b01 part)), (6, .int (nI tp.length))], [], h) (fun u => u.1 = some (.int (nI (fl p X).length)) ∧ FS cM h u.2 ∧ ∃ ar', MW u.2 (P, a1, a2, a3, a4, a5, X.length + 1, a7, a8, a9, a10, a11, a12) ar' ∧ EA P ar' (X ++ [(p, kd, k, E, nm, tp.length, (if part then txk else 0), tp)]) ∧ ∀ q, 8 ≤ q → ar' q = ar q) := by
  have stB : ∀ (h2 : ix_H) (v : Int32), FS cM h h2 → v = nI (if part then txk else 0) - nI 1 → MW h2 (P, a1, a2, a3, a4, a5, X.length + 1, a7, a8, a9, a10, a11, a12) (addA ar X.length (nI p) (nI kd) (nI k) (nI E) (nI nm) (nI tp.length)) → gs none (d + 1) mD_X5_send (288, [(0, .ref 96), (6, .int (nI tp.length)), (10, .int (nI X.length))], [.int v, .int (nI X.length), .ref 103], h2) (fun u => u.1 = some (.int (nI (fl p X).length)) ∧ FS cM h u.2 ∧ ∃ ar', MW u.2 (P, a1, a2, a3, a4, a5, X.length + 1, a7, a8, a9, a10, a11, a12) ar' ∧ EA P ar' (X ++ [(p, kd, k, E, nm, tp.length, (if part then txk else 0), tp)]) ∧ ∀ q, 8 ≤ q → ar' q = ar q) := by
    intro h2 v hF2 hv w2
    have wd := w2.s6 (upd (addA ar X.length (nI p) (nI kd) (nI k) (nI E) (nI nm) (nI tp.length) 6) X.length v)
    obtain ⟨v0, v1, v2, v3, v4, v5, v6, v7, -⟩ := w2
    refine gs_is X.length 289 a_X5_send_288 (by first | assumption | exact hs_same _ _ _ | exact (hs_ne _ _ (by first | assumption | decide | omega)).trans (by first | assumption | exact hs_same _ _ _ | exact (hs_ne _ _ (by first | assumption | decide | omega)).trans (by first | assumption | exact hs_same _ _ _ | exact (hs_ne _ _ (by first | assumption | decide | omega)).trans (by first | assumption | exact hs_same _ _ _ | exact (hs_ne _ _ (by first | assumption | decide | omega)).trans (by first | assumption | exact hs_same _ _ _))))) rfl (by omega) (by omega) rfl ?_
    refine gs_k (nI 0) 290 a_X5_send_289 (by decide +kernel) rfl ?_
    refine gs_n 292 a_X5_send_290 rfl ?_
    refine gs_w [(11, .int (nI 0)), (0, .ref 96), (6, .int (nI tp.length)), (10, .int (nI X.length))] (by simp [ix_nd]) (by intro x hx; simp only [List.mem_cons, List.not_mem_nil, or_false] at hx; rcases hx with rfl | rfl | rfl | rfl <;> rfl) ?_
    generalize hA : va_up (addA ar X.length (nI p) (nI kd) (nI k) (nI E) (nI nm) (nI tp.length)) 6 (upd (addA ar X.length (nI p) (nI kd) (nI k) (nI E) (nI nm) (nI tp.length) 6) X.length v) = A at *
    have hA8 : ∀ q, 7 ≤ q → A q = ar q := by
      intro q hq
      rw [← hA, va_up_ne _ _ (by omega), addA_ge (by omega)]
    have hA6 : ∀ q, q ≤ 6 → ∀ i, i < X.length → A q i = ar q i := by
      intro q hq i hi
      rw [← hA]
      by_cases z : q = 6
      · subst z; rw [va_up_self, upd_n (by omega), addA_ne (by omega)]
      · rw [va_up_ne _ _ z, addA_ne (by omega)]
    have wid : va_up A 7 (A 7) = A := by
      funext q
      by_cases z : q = 7
      · subst z; rw [va_up_self]
      · rw [va_up_ne _ _ z]
    refine l_pay (h0 := h) (l1 := .int 0) (l2 := .int 0) (l3 := .int 0) (l4 := .int 0) (l5 := .int 0) hl rfl h40 A (s := (P, a1, a2, a3, a4, a5, X.length + 1, a7, a8, a9, a10, a11, a12)) (fun i hi => by rw [hA8 18 (by omega)]; exact h18 i hi) ?_ tp.length 0 _ (A 7) (by omega) (hF2.trans (FS.m _ (by omega))) (by rw [wid]; exact wd) (fun x hx => absurd hx (by omega)) (fun y _ => rfl)
    intro h3 g hF3 w3 g1 g2
    have hE3 : EA P (va_up A 7 g) (X ++ [(p, kd, k, E, nm, tp.length, (if part then txk else 0), tp)]) := by
      refine EA_sn hE hl hok ?_ ?_ ?_
      · intro q hq i hi
        rw [va_up_ne _ _ (by omega)]
        exact hA6 q hq i hi
      · intro y hy
        rw [va_up_self, g2 y hy, hA8 7 (by omega)]
      · obtain ⟨q0, q1, q2, q3, q4, q5, q6⟩ := addA_at (ar := ar) (j := X.length) (f := nI p) (K := nI kd) (k := nI k) (E := nI E) (a := nI nm) (b := nI tp.length)
        have hB : ∀ q, q ≤ 5 → va_up A 7 g q X.length = addA ar X.length (nI p) (nI kd) (nI k) (nI E) (nI nm) (nI tp.length) q X.length := by
          intro q hq
          rw [va_up_ne _ _ (by omega), ← hA, va_up_ne _ _ (by omega)]
        refine ⟨(hB 0 (by omega)).trans q0, (hB 1 (by omega)).trans q1, (hB 2 (by omega)).trans q2, (hB 3 (by omega)).trans q3, (hB 4 (by omega)).trans q4, (hB 5 (by omega)).trans q5, ?_, ?_⟩
        · rw [va_up_ne _ _ (by decide), ← hA, va_up_self, upd_s]
          exact hv
        · intro x hx
          rw [va_up_self]
          exact g1 x hx
    have w3' : MW h3 (P, a1, a2, a3, a4, a5, (X ++ [((p, kd, k, E, nm, tp.length, (if part then txk else 0), tp) : En)]).length, a7, a8, a9, a10, a11, a12) (va_up A 7 g) := by rw [List.length_append]; exact w3
    have k0 := w3.1
    simp only [mcell] at k0
    have hof := m_offsetOf (d := d) (e := X.length) (by rw [List.length_append]; simp) hE3 w3'
    rw [getD_last, List.take_left' rfl] at hof
    refine gs_n 326 a_X5_send_325 rfl ?_
    refine gs_n 328 a_X5_send_326 rfl ?_
    refine gs_cv 331 a_X5_send_328 k_5_165 q_X5_offsetOf hof rfl rfl rfl (by simp [Value.category]) (by first | assumption | exact hs_same _ _ _ | exact (hs_ne _ _ (by first | assumption | decide | omega)).trans (by first | assumption | exact hs_same _ _ _ | exact (hs_ne _ _ (by first | assumption | decide | omega)).trans (by first | assumption | exact hs_same _ _ _ | exact (hs_ne _ _ (by first | assumption | decide | omega)).trans (by first | assumption | exact hs_same _ _ _ | exact (hs_ne _ _ (by first | assumption | decide | omega)).trans (by first | assumption | exact hs_same _ _ _))))) rfl (fun v h1 hp => ?_)
    cases hp
    refine gs_iret a_X5_send_331 rfl rfl ?_
    refine ⟨rfl, hF3, _, w3, hE3, ?_⟩
    intro q hq
    rw [va_up_ne _ _ (by omega), hA8 q (by omega)]
  have stA : gs none (d + 1) mD_X5_send (256, [(0, .ref 96), (1, .int (nI k)), (2, .int (nI E)), (3, .int (nI p)), (4, .int (nI nm)), (5, .int (b01 part)), (6, .int (nI tp.length))], [.int (nI kd), .int (nI p), .ref 96], h) (fun u => u.1 = some (.int (nI (fl p X).length)) ∧ FS cM h u.2 ∧ ∃ ar', MW u.2 (P, a1, a2, a3, a4, a5, X.length + 1, a7, a8, a9, a10, a11, a12) ar' ∧ EA P ar' (X ++ [(p, kd, k, E, nm, tp.length, (if part then txk else 0), tp)]) ∧ ∀ q, 8 ≤ q → ar' q = ar q) := by
    have w0 := w.1
    simp only [mcell] at w0
    refine gs_n 257 a_X5_send_256 rfl ?_
    refine gs_n 258 a_X5_send_257 rfl ?_
    refine gs_n 260 a_X5_send_258 rfl ?_
    refine gs_n 262 a_X5_send_260 rfl ?_
    refine gs_cv 265 a_X5_send_262 k_5_129 q_X5_add (m_add (nI p) (nI kd) (nI k) (nI E) (nI nm) (nI tp.length) hl w) rfl rfl rfl (by simp [Value.category]) (by first | assumption | exact hs_same _ _ _ | exact (hs_ne _ _ (by first | assumption | decide | omega)).trans (by first | assumption | exact hs_same _ _ _ | exact (hs_ne _ _ (by first | assumption | decide | omega)).trans (by first | assumption | exact hs_same _ _ _ | exact (hs_ne _ _ (by first | assumption | decide | omega)).trans (by first | assumption | exact hs_same _ _ _ | exact (hs_ne _ _ (by first | assumption | decide | omega)).trans (by first | assumption | exact hs_same _ _ _))))) rfl (fun v h2 hp => ?_)
    obtain ⟨e1, hF2, w2⟩ := hp
    simp only at e1
    subst e1
    obtain ⟨v0, v1, v2, v3, v4, v5, v6, v7, v8, v9, v10, v11, -⟩ := id w2
    simp only [mcell] at v0
    refine gs_n 267 a_X5_send_265 rfl ?_
    refine gs_n 268 a_X5_send_267 rfl ?_
    refine gs_get 271 a_X5_send_268 f_5_28 (by first | assumption | exact hs_same _ _ _ | exact (hs_ne _ _ (by first | assumption | decide | omega)).trans (by first | assumption | exact hs_same _ _ _ | exact (hs_ne _ _ (by first | assumption | decide | omega)).trans (by first | assumption | exact hs_same _ _ _ | exact (hs_ne _ _ (by first | assumption | decide | omega)).trans (by first | assumption | exact hs_same _ _ _ | exact (hs_ne _ _ (by first | assumption | decide | omega)).trans (by first | assumption | exact hs_same _ _ _))))) rfl rfl ?_
    refine gs_n 273 a_X5_send_271 rfl ?_
    refine gs_n 275 a_X5_send_273 rfl ?_
    refine gs_if 287 278 a_X5_send_275 rfl rfl (fun c => ?_) (fun c => ?_)
    · have c := (b01_0 _).mp c
      refine gs_k (-1) 288 a_X5_send_287 (by decide +kernel) rfl ?_
      refine gs_w [(0, .ref 96), (6, .int (nI tp.length)), (10, .int (nI X.length))] (by simp [ix_nd]) (by intro x hx; simp only [List.mem_cons, List.not_mem_nil, or_false] at hx; rcases hx with rfl | rfl | rfl <;> rfl) ?_
      exact stB h2 _ hF2 (by rw [c]; exact (show (-1 : Int32) = nI 0 - nI 1 by decide +kernel)) w2
    · have c := (b01_ne _).mp c
      refine gs_n 279 a_X5_send_278 rfl ?_
      refine gs_get 282 a_X5_send_279 f_5_43 (by first | assumption | exact hs_same _ _ _ | exact (hs_ne _ _ (by first | assumption | decide | omega)).trans (by first | assumption | exact hs_same _ _ _ | exact (hs_ne _ _ (by first | assumption | decide | omega)).trans (by first | assumption | exact hs_same _ _ _ | exact (hs_ne _ _ (by first | assumption | decide | omega)).trans (by first | assumption | exact hs_same _ _ _ | exact (hs_ne _ _ (by first | assumption | decide | omega)).trans (by first | assumption | exact hs_same _ _ _))))) rfl rfl ?_
      refine gs_n 283 a_X5_send_282 rfl ?_
      refine gs_ia k 284 a_X5_send_283 (by first | assumption | exact hs_same _ _ _ | exact (hs_ne _ _ (by first | assumption | decide | omega)).trans (by first | assumption | exact hs_same _ _ _ | exact (hs_ne _ _ (by first | assumption | decide | omega)).trans (by first | assumption | exact hs_same _ _ _ | exact (hs_ne _ _ (by first | assumption | decide | omega)).trans (by first | assumption | exact hs_same _ _ _ | exact (hs_ne _ _ (by first | assumption | decide | omega)).trans (by first | assumption | exact hs_same _ _ _))))) rfl (by omega) (by omega) rfl ?_
      refine gs_n 288 a_X5_send_284 rfl ?_
      refine gs_w [(0, .ref 96), (6, .int (nI tp.length)), (10, .int (nI X.length))] (by simp [ix_nd]) (by intro x hx; simp only [List.mem_cons, List.not_mem_nil, or_false] at hx; rcases hx with rfl | rfl | rfl <;> rfl) ?_
      exact stB h2 _ hF2 (by rw [addA_ge (by omega), hpt c, c]; rfl) w2
  refine gs_n 245 a_X5_send_244 rfl ?_
  refine gs_n 246 a_X5_send_245 rfl ?_
  refine gs_n 248 a_X5_send_246 rfl ?_
  refine gs_if 255 251 a_X5_send_248 rfl rfl (fun c => ?_) (fun c => ?_)
  · have c := (b01_0 _).mp c
    refine gs_k (nI 0) 256 a_X5_send_255 (by decide +kernel) rfl ?_
    refine gs_top (nI kd) (by rw [hkd, c]; rfl) stA
  · have c := (b01_ne _).mp c
    refine gs_k (nI 1) 252 a_X5_send_251 (by decide +kernel) rfl ?_
    refine gs_n 256 a_X5_send_252 rfl ?_
    refine gs_top (nI kd) (by rw [hkd, c]; rfl) stA
end R8
