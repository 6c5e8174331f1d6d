/-! THE LAW: rules for the script, frames -/
section LW
variable {d : Nat} {q : ix_M} {Q : ix_O → Prop} {pc n : Nat} {ls : ix_L} {r : List Value} {h h' : ix_H} {S : ix_S}
theorem gs_sc {L : Nat} {xs : Nat → Int32} {x : Int32} {y : Nat} (j pc' : Nat) (hat : ix_at q.2.2.2.2.2.2.2.1 pc = some (.iaload, n)) (hx : x = nI j) (hj : j < L) (hL : L ≤ 3072) (hp : pc + 1 = pc') (k : gs (some (L, xs)) d q (pc', ls, .int (xs j) :: r, h) Q) : gs (some (L, xs)) d q (pc, ls, .int x :: .retAddr y :: r, h) Q := by
  subst hp
  refine gs_at hat ?_ k
  have h1 := ix_bad hx hj (by omega)
  subst hx
  simp only [ix_exec, ix_ia, h1, if_false]
  rw [nI_clamp (by omega)]
theorem gs_nz {x : Int32} {n1 n2 n3 n4 : Nat} (pc1 pc2 pc3 pc4 : Nat) (hat1 : ix_at q.2.2.2.2.2.2.2.1 pc = some (.ifCond .eq 7, n1)) (j1 : ix_jmp pc 7 = some pc3) (hat2 : ix_at q.2.2.2.2.2.2.2.1 pc1 = some (.iconst 1, n2)) (hat3 : ix_at q.2.2.2.2.2.2.2.1 pc2 = some (.goto 4, n3)) (j2 : ix_jmp pc2 4 = some pc4) (hat4 : ix_at q.2.2.2.2.2.2.2.1 pc3 = some (.iconst 0, n4)) (e1 : pc + 3 = pc1) (e2 : pc1 + 1 = pc2) (e3 : pc3 + 1 = pc4) (k : gs S d q (pc4, ls, .int (b01 (!decide (x = 0))) :: r, h) Q) : gs S d q (pc, ls, .int x :: r, h) Q := by
  refine gs_if pc3 pc1 hat1 j1 e1 (fun c => ?_) (fun c => ?_)
  · have c : x = 0 := c
    rw [decide_eq_true c] at k
    exact gs_k (nI 0) pc4 hat4 (by decide +kernel) e3 k
  · have c : ¬ x = 0 := c
    rw [decide_eq_false c] at k
    refine gs_k (nI 1) pc2 hat2 (by decide +kernel) e2 ?_
    refine gs_at hat3 ?_ k
    simp only [ix_exec, ix_goto, j2]
    rfl
theorem sub6 {L : Nat} (hL : L ≤ 3072) : (nI L - nI 6).toInt = (L : Int) - 6 := by
  by_cases z : 6 ≤ L
  · rw [pk_sub z, nI_toInt (by omega)]
    omega
  · have : ∀ L, L < 6 → (nI L - nI 6).toInt = (L : Int) - 6 := by decide +kernel
    exact this L (by omega)
theorem CW.keep {sc : SC} {lg : Nat → List En} {tn : Nat → List Nat} {bk : List En} {bt : List Nat} {un : List (Nat × Nat)} {pr : Nat → PS} {mk : Nat → Int32} {tp an : List Nat} (w : CW h sc lg tn bk bt un pr mk tp an) (e : ∀ k, k < 96 → h'.2.2 k = h.2.2 k) : CW h' sc lg tn bk bt un pr mk tp an := by
  obtain ⟨w1, w2, w3, w4, w5, ⟨f6, w6, w6'⟩, w7, w8, ⟨f9, w9, w9'⟩, ⟨f10, w10, w10'⟩, w11, w12, w13⟩ := w
  exact ⟨(e _ (by omega)).trans w1, w2, w3.fr (e _ (by omega)) (e _ (by omega)), w4.fr (e _ (by omega)) (e _ (by omega)), w5.fr (e _ (by omega)) (e _ (by omega)), ⟨f6, (e _ (by omega)).trans w6, w6'⟩, w7.fr (e _ (by omega)) (e _ (by omega)), w8.fr (e _ (by omega)) (e _ (by omega)) (e _ (by omega)) (e _ (by omega)), ⟨f9, (e _ (by omega)).trans w9, w9'⟩, ⟨f10, (e _ (by omega)).trans w10, w10'⟩, fun p hp => (w11 p hp).keep (fun i hi => e _ (by omega)), fun k hk => (e _ (by omega)).trans (w12 k hk), w13⟩
theorem CS.keep {σ : SS} (w : CS h σ) (e : ∀ k, k < 96 → h'.2.2 k = h.2.2 k) : CS h' σ := by
  obtain ⟨P, cap, tmo, clk, cl, cut, X, sy, torn, tE, tp, an⟩ := σ
  have w' : CE h P cap tmo clk cl cut X sy torn tE tp an (tS cl P X) := w
  show CE h' P cap tmo clk cl cut X sy torn tE tp an (tS cl P X)
  generalize tS cl P X = T at *
  obtain ⟨n, ep, tx, bg, ba, ad, lc, de, mq, nx, la, en⟩ := T
  obtain ⟨pr, mk, w1, w2⟩ := w'
  exact ⟨pr, mk, w1.keep e, w2⟩
theorem MW.keep {s : MS} {ar : Nat → Nat → Int32} (w : MW h s ar) (e : ∀ k, 96 ≤ k → h'.2.2 k = h.2.2 k) : MW h' s ar := by
  obtain ⟨w0, w1, w2, w3, w4, w5, w6, w7, w8, w9, w10, w11, w12, w13, w14, w15, w16, w17, w18, w19, w20, w21⟩ := w
  exact ⟨(e _ (by omega)).trans w0, (e _ (by omega)).trans w1, (e _ (by omega)).trans w2, (e _ (by omega)).trans w3, (e _ (by omega)).trans w4, (e _ (by omega)).trans w5, (e _ (by omega)).trans w6, (e _ (by omega)).trans w7, (e _ (by omega)).trans w8, (e _ (by omega)).trans w9, (e _ (by omega)).trans w10, (e _ (by omega)).trans w11, (e _ (by omega)).trans w12, (e _ (by omega)).trans w13, (e _ (by omega)).trans w14, (e _ (by omega)).trans w15, (e _ (by omega)).trans w16, (e _ (by omega)).trans w17, (e _ (by omega)).trans w18, (e _ (by omega)).trans w19, (e _ (by omega)).trans w20, (e _ (by omega)).trans w21⟩
theorem RS.keep {σ : SS} (w : RS h σ) (e : ∀ k, 96 ≤ k → h'.2.2 k = h.2.2 k) : RS h' σ := by
  obtain ⟨P, cap, tmo, clk, cl, cut, X, sy, torn, tE, tp, an⟩ := σ
  have w' : RE h P cap tmo clk cl cut X sy torn tE tp an (tS cl P X) := w
  show RE h' P cap tmo clk cl cut X sy torn tE tp an (tS cl P X)
  generalize tS cl P X = T at *
  obtain ⟨n, ep, tx, bg, ba, ad, lc, de, mq, nx, la, en⟩ := T
  obtain ⟨ar, w1, w2⟩ := w'
  exact ⟨ar, w1.keep e, w2⟩
theorem CS.m {σ : SS} (w : CS h σ) (hF : FS cM h h') : CS h' σ := w.keep (fun k hk => hF.2.2 k (fun q => by have := q.1; omega))
theorem CS.w {σ : SS} (w : CS h σ) (hF : FS cW h h') : CS h' σ := w.keep (fun k hk => hF.2.2 k (fun q => by have q : 96 ≤ k := q; omega))
theorem RS.c {σ : SS} (w : RS h σ) (hF : FS cC h h') : RS h' σ := w.keep (fun k hk => hF.2.2 k (fun q => by have q : k < 96 := q; omega))
theorem CS.cell {σ : SS} (w : CS h σ) : ∃ fs, h.2.2 0 = .inr (4, fs) := by
  obtain ⟨P, cap, tmo, clk, cl, cut, X, sy, torn, tE, tp, an⟩ := σ
  have w' : CE h P cap tmo clk cl cut X sy torn tE tp an (tS cl P X) := w
  exact ⟨_, w'.obj'⟩
theorem RS.cell {σ : SS} (w : RS h σ) : ∃ fs, h.2.2 96 = .inr (5, fs) := by
  obtain ⟨P, cap, tmo, clk, cl, cut, X, sy, torn, tE, tp, an⟩ := σ
  have w' : RE h P cap tmo clk cl cut X sy torn tE tp an (tS cl P X) := w
  exact ⟨_, w'.obj⟩
theorem r_formatS {P cap tmo clk cut sy torn : Nat} {cl : Bool} {X : List En} {tE : En} {tp an : List Nat} (p c t : Int32) (hs : SI (P, cap, tmo, clk, cl, cut, X, sy, torn, tE, tp, an)) (w : RS h (P, cap, tmo, clk, cl, cut, X, sy, torn, tE, tp, an)) : ev (d + 2) n_X5_format [.ref 96, .int p, .int c, .int t] h (fun u => u.1 = some (.int (F_format (P, cap, tmo, clk, cl, cut, X, sy, torn, tE, tp, an) p c t).1) ∧ FS cM h u.2 ∧ RS u.2 (F_format (P, cap, tmo, clk, cl, cut, X, sy, torn, tE, tp, an) p c t).2) := by
  have w' : RE h P cap tmo clk cl cut X sy torn tE tp an (tS cl P X) := w
  refine ev_post (r_format p c t hs.2.1 w') ?_
  intro u hu
  simp only [F_format]
  split at hu
  · rename_i z
    rw [if_pos z]
    exact hu
  · rename_i z
    rw [if_neg z]
    subst hu
    exact ⟨rfl, FS.rf _ _, w⟩
/-- what holds at the head of the law's loop -/
def LI (h : ix_H) : Prop := ∃ σ, SJ σ ∧ CS h σ ∧ RS h σ ∧ h.1 = 118 ∧ h.2.1 ≤ 400000
end LW
