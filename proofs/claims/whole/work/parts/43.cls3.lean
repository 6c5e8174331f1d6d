/-! OnceLedger: calls that write the book -/
def CS (h : ix_H) : SS → Prop
  | (P, cap, tmo, clk, cl, cut, X, sy, torn, tE, tp, an) => CE h P cap tmo clk cl cut X sy torn tE tp an (tS cl P X)
section C3
variable {d : Nat} {h : ix_H} {P cap tmo clk cut sy torn : Nat} {cl : Bool} {X : List En} {tE : En} {tp an : List Nat} {n nx : Nat} {ep tx bg ba lc de mq en : Nat → Nat} {ad : Nat → Int32} {la : List (Nat × Nat × Nat)} {T : TS}
theorem c_refusal (x e : Int32) (kn' : Bool) (hb : ∀ k, k < 32 → T.2.1 k ≤ 1000) (w : CE h P cap tmo clk cl cut X sy torn tE tp an T) : ev (d + 3) n_X4_refusalOf [.ref 0, .int x, .int e, .int (b01 kn')] h (fun u => u = (some (.int (refF cl T x e kn')), h)) := by
  obtain ⟨n, ep, tx, bg, ba, ad, lc, de, mq, nx, la, en⟩ := T
  obtain ⟨pr, mk, w, hpr, hmk, hsy⟩ := w
  have hR : isR pr x = rgs (n, ep, tx, bg, ba, ad, lc, de, mq, nx, la, en) x := by
    unfold isR rgs
    cases hk : isK x with
    | false => rfl
    | true =>
      have h1 : 0 ≤ x.toInt ∧ x.toInt < 32 := of_decide_eq_true hk
      have h2 := (hpr (kn x) (by unfold kn; omega)).1
      have h3 := hb (kn x) (by unfold kn; omega)
      simp only at h3
      unfold kn at h2 h3 ⊢
      rw [h2]
      congr 2
      exact decide_eq_decide.mpr (m1_no (Nat.lt_of_le_of_lt h3 (by decide)))
  have hrz : rfz (P, cap, tmo, clk, cl, cut, nx) pr x e kn' = refF cl (n, ep, tx, bg, ba, ad, lc, de, mq, nx, la, en) x e kn' := by
    unfold rfz refF
    rw [hR]
    cases cl with
    | true => rfl
    | false =>
      by_cases z : (kn' && rgs (n, ep, tx, bg, ba, ad, lc, de, mq, nx, la, en) x) = false
      · rw [if_pos z, if_pos z]
      · rw [if_neg z, if_neg z]
        have z2 : kn' = true ∧ rgs (n, ep, tx, bg, ba, ad, lc, de, mq, nx, la, en) x = true := by simpa using z
        have z3 := z2.2
        unfold rgs at z3
        rw [Bool.and_eq_true] at z3
        have h1 : 0 ≤ x.toInt ∧ x.toInt < 32 := of_decide_eq_true z3.1
        have h2 := (hpr (kn x) (by unfold kn; omega)).1
        unfold kn at h2 ⊢
        rw [h2]
  rw [← hrz]
  exact e_refusal x e kn' w
theorem c_bookRoom {more : Nat} (hm : more ≤ 1) (hn : T.1 = (fl P X).length) (hb : ∀ k, k < 32 → T.2.2.1 k ≤ 1000) (w : CE h P cap tmo clk cl cut X sy 0 tE tp an T) : ev (d + 3) n_X4_bookHasRoom [.ref 0, .int (nI more)] h (fun u => u = (some (.int (b01 (bkF T more))), h)) := by
  obtain ⟨n, ep, tx, bg, ba, ad, lc, de, mq, nx, la, en⟩ := T
  obtain ⟨pr, mk, w, hpr, hmk, hsy⟩ := w
  have : bkRoom (fl P X) (btO P 0 tE) pr more = bkF (n, ep, tx, bg, ba, ad, lc, de, mq, nx, la, en) more := by
    unfold bkRoom bkF cntO
    rw [btO_0, ← hn]
    rw [cnt_same (f := fun k => !decide (tx k = 0)) (f' := isO pr)]
    · rfl
    · intro k hk
      have h1 := (hpr k hk).2.1
      have h2 := hb k hk
      simp only at h2
      unfold isO
      rw [h1]
      congr 2
      exact propext (m1_no (Nat.lt_of_le_of_lt h2 (by decide)))
  rw [← this]
  exact e_bookRoom more hm w
theorem c_regX {k : Nat} (hk : k < 32) (hv : pv P cap X) (ht : (told P X).2.2.1 k = 0) (hr : 16 * (told P X).1 + 16 + sm (res (told P X).2.2.1 (told P X).2.2.2.2.2.2.2.1) 32 ≤ 16000) (w : CE h P cap tmo clk cl cut X sy 0 tE tp an (told P X)) : ev (d + 5) n_X4_raiseEpoch [.ref 0, .int (nI k)] h (fun u => u.1 = none ∧ FS cC h u.2 ∧ CE u.2 P cap tmo clk cl cut (regX P X k) sy 0 tE tp an (told P (regX P X k))) := by
  obtain ⟨n, ep, tx, bg, ba, ad, lc, de, mq, nx, la, en, hT⟩ := told_ex P X
  have hok := w.ok
  rw [hT] at w ht hr
  simp only at ht hr
  have h1 := pv_reg hok.2.1 hv hT hk ht hr
  have h2 : regX P X k = X ++ [(P, 0, k, ep k, 0, 0, 0, [])] := by unfold regX; rw [hT]
  rw [h2, h1.2]
  exact c_raise hk hv hT (by omega) w
theorem c_decX {k : Nat} (c : Bool) (hk : k < 32) (hv : pv P cap X) (ht : (told P X).2.2.1 k ≠ 0) (hd : (told P X).2.2.2.2.2.2.2.1 k = 0) (w : CE h P cap tmo clk cl cut X sy 0 tE tp an (told P X)) : ev (d + 5) n_X4_decide [.ref 0, .int (nI k), .int (b01 c)] h (fun u => u.1 = none ∧ FS cC h u.2 ∧ CE u.2 P cap tmo clk cl cut (decX P X k (if c then 1 else 0)) sy 0 tE tp an (told P (decX P X k (if c then 1 else 0)))) := by
  obtain ⟨n, ep, tx, bg, ba, ad, lc, de, mq, nx, la, en, hT⟩ := told_ex P X
  have hok := w.ok
  rw [hT] at w ht hd
  have h1 := pv_decide hok.2.1 hv hT hk ht hd (c := if c then 1 else 0) (by split <;> omega)
  have h2 : decX P X k (if c then 1 else 0) = X ++ [(P, 4, k, ep k - 1, (if c then 1 else 0), tx k - 1, 0, [])] := by unfold decX; rw [hT]
  rw [h2, h1.2]
  exact c_decide c hk ht hd hv hT w
theorem c_finX {k : Nat} (hk : k < 32) (hv : pv P cap X) (ht : (told P X).2.2.1 k ≠ 0) (hd : (told P X).2.2.2.2.2.2.2.1 k ≠ 0) (w : CE h P cap tmo clk cl cut X sy 0 tE tp an (told P X)) : ev (d + 6) n_X4_finish [.ref 0, .int (nI k)] h (fun u => u.1 = none ∧ FS cC h u.2 ∧ CE u.2 P cap tmo clk cl cut (finX P X k) sy 0 tE tp an (told P (finX P X k))) := by
  obtain ⟨n, ep, tx, bg, ba, ad, lc, de, mq, nx, la, en, hT⟩ := told_ex P X
  have hok := w.ok
  rw [hT] at w ht hd
  have h1 := fin_ok hok.2.1 hv hT hk ht hd
  rw [h1.2]
  unfold finX
  rw [hT]
  exact c_finish hk ht hd hv hT w
end C3
