/-! OnceLedger: calls that write the book -/
def CS (h : ix_H) : SS → Prop
  | (P, cap, tmo, clk, cl, cut, X, sy, torn, tE, tp, an) => CE h P cap tmo clk cl cut X sy torn tE tp an (tS cl P X)
section C3
variable {d : Nat} {h : ix_H} {P cap tmo clk cut sy torn : Nat} {cl : Bool} {X : List En} {tE : En} {tp an : List Nat} {n nx : Nat} {ep tx bg ba lc de mq en : Nat → Nat} {ad : Nat → Int32} {la : List (Nat × Nat × Nat)} {T : TS}
theorem T_b (hv : pv P cap X) (cl : Bool) : ∀ k, k < 32 → (tS cl P X).2.1 k ≤ 1000 ∧ (tS cl P X).2.2.1 k ≤ 1000 ∧ (tS cl P X).2.2.2.1 k ≤ 1000001 := by
  intro k hk
  unfold tS
  cases cl with
  | true => exact ⟨Nat.zero_le _, Nat.zero_le _, Nat.zero_le _⟩
  | false =>
    obtain ⟨n, ep, tx, bg, ba, ad, lc, de, mq, nx, la, en, hT⟩ := told_ex P X
    have hg : GT P cap X (n, ep, tx, bg, ba, ad, lc, de, mq, nx, la, en) := hT ▸ pv_all hv
    have hr := hg.2.2.2.2.1
    have h2 := hg.1.2.1
    have h1 := hg.1.2.2.2.2.1 k hk
    rw [if_neg (by simp), hT]
    simp only
    omega
theorem c_refusal (x e : Int32) (kn' : Bool) (hb : ∀ k, k < 32 → T.2.1 k ≤ 1000) (w : CE h P cap tmo clk cl cut X sy torn tE tp an T) : ev (d + 3) n_X4_refusalOf [.ref 0, .int x, .int e, .int (b01 kn')] h (fun u => u = (some (.int (refF cl T x e kn')), h)) := by
  obtain ⟨n, ep, tx, bg, ba, ad, lc, de, mq, nx, la, en⟩ := T
  obtain ⟨pr, mk, w, hpr, hmk, hsy⟩ := w
  have hR : isR pr x = rgs (n, ep, tx, bg, ba, ad, lc, de, mq, nx, la, en) x := by
    unfold isR rgs
    cases hk : isK x with
    | false => rfl
    | true =>
      have h1 : 0 ≤ x.toInt ∧ x.toInt < 32 := of_decide_eq_true hk
      have h2 := (hpr (kn x) (by unfold kn; omega)).1
      have h3 := hb (kn x) (by unfold kn; omega)
      simp only at h3
      unfold kn at h2 h3 ⊢
      rw [h2]
      congr 2
      exact decide_eq_decide.mpr (m1_no (Nat.lt_of_le_of_lt h3 (by decide)))
  have hrz : rfz (P, cap, tmo, clk, cl, cut, nx) pr x e kn' = refF cl (n, ep, tx, bg, ba, ad, lc, de, mq, nx, la, en) x e kn' := by
    unfold rfz refF
    rw [hR]
    cases cl with
    | true => rfl
    | false =>
      by_cases z : (kn' && rgs (n, ep, tx, bg, ba, ad, lc, de, mq, nx, la, en) x) = false
      · rw [if_pos z, if_pos z]
      · rw [if_neg z, if_neg z]
        have z2 : kn' = true ∧ rgs (n, ep, tx, bg, ba, ad, lc, de, mq, nx, la, en) x = true := by simpa using z
        have z3 := z2.2
        unfold rgs at z3
        rw [Bool.and_eq_true] at z3
        have h1 : 0 ≤ x.toInt ∧ x.toInt < 32 := of_decide_eq_true z3.1
        have h2 := (hpr (kn x) (by unfold kn; omega)).1
        unfold kn at h2 ⊢
        rw [h2]
  rw [← hrz]
  exact e_refusal x e kn' w
theorem refF_0 {x e : Int32} {kn' : Bool} (h : refF cl T x e kn' = nI 0) : cl = false ∧ kn' = true ∧ isK x = true ∧ T.2.1 (kn x) ≠ 0 ∧ m1 (T.2.1 (kn x)) = e := by
  unfold refF at h
  cases cl with
  | true => rw [if_pos rfl] at h; exact absurd h (by decide +kernel)
  | false =>
    simp only [Bool.false_eq_true, if_false] at h
    by_cases z : (kn' && rgs T x) = false
    · rw [if_pos z] at h; exact absurd h (by decide +kernel)
    · rw [if_neg z] at h
      have z2 : kn' = true ∧ rgs T x = true := by simpa using z
      have z3 := z2.2
      unfold rgs at z3
      rw [Bool.and_eq_true] at z3
      by_cases y : m1 (T.2.1 (kn x)) = e
      · exact ⟨rfl, z2.1, z3.1, by simpa using z3.2, y⟩
      · rw [if_neg y] at h; exact absurd h (by decide +kernel)
theorem isK_kn {x : Int32} (h : isK x = true) : kn x < 32 ∧ x = nI (kn x) := by
  have h1 : 0 ≤ x.toInt ∧ x.toInt < 32 := of_decide_eq_true h
  exact ⟨by unfold kn; omega, nI_ofInt h1.1⟩
theorem isPn_kn {x : Int32} (h : isPn P x = true) : kn x < P ∧ x = nI (kn x) := by
  have h1 : 0 ≤ x.toInt ∧ x.toInt < P := of_decide_eq_true h
  exact ⟨by unfold kn; omega, nI_ofInt h1.1⟩
theorem c_bookRoom {more : Nat} (hm : more ≤ 1) (hn : T.1 = (fl P X).length) (hb : ∀ k, k < 32 → T.2.2.1 k ≤ 1000) (w : CE h P cap tmo clk cl cut X sy 0 tE tp an T) : ev (d + 3) n_X4_bookHasRoom [.ref 0, .int (nI more)] h (fun u => u = (some (.int (b01 (bkF T more))), h)) := by
  obtain ⟨n, ep, tx, bg, ba, ad, lc, de, mq, nx, la, en⟩ := T
  obtain ⟨pr, mk, w, hpr, hmk, hsy⟩ := w
  have : bkRoom (fl P X) (btO P 0 tE) pr more = bkF (n, ep, tx, bg, ba, ad, lc, de, mq, nx, la, en) more := by
    unfold bkRoom bkF cntO
    rw [btO_0, ← hn]
    rw [cnt_same (f := fun k => !decide (tx k = 0)) (f' := isO pr)]
    · rfl
    · intro k hk
      have h1 := (hpr k hk).2.1
      have h2 := hb k hk
      simp only at h2
      unfold isO
      rw [h1]
      congr 2
      exact propext (m1_no (Nat.lt_of_le_of_lt h2 (by decide)))
  rw [← this]
  exact e_bookRoom more hm w
theorem noDec_sm (hd : ∀ k, k < 32 → de k = 0) : sm (res tx de) 32 = 48 * cnt (fun k => !decide (tx k = 0)) 32 := by
  have : ∀ m, m ≤ 32 → sm (res tx de) m = 48 * cnt (fun k => !decide (tx k = 0)) m := by
    intro m
    induction m with
    | zero => intro _; rfl
    | succ m ih =>
      intro hm
      simp only [sm, cnt]
      rw [ih (by omega), Nat.mul_add]
      congr 1
      unfold res
      by_cases z : tx m = 0
      · simp [z]
      · rw [if_neg z, if_pos (hd m (by omega))]; simp [z]
  exact this 32 (Nat.le_refl _)
theorem c_regX {k : Nat} (hk : k < 32) (hv : pv P cap X) (ht : (told P X).2.2.1 k = 0) (hr : 16 * (told P X).1 + 16 + sm (res (told P X).2.2.1 (told P X).2.2.2.2.2.2.2.1) 32 ≤ 16000) (w : CE h P cap tmo clk cl cut X sy 0 tE tp an (told P X)) : ev (d + 5) n_X4_raiseEpoch [.ref 0, .int (nI k)] h (fun u => u.1 = none ∧ FS cC h u.2 ∧ CE u.2 P cap tmo clk cl cut (regX P X k) sy 0 tE tp an (told P (regX P X k))) := by
  obtain ⟨n, ep, tx, bg, ba, ad, lc, de, mq, nx, la, en, hT⟩ := told_ex P X
  have hok := w.ok
  rw [hT] at w ht hr
  simp only at ht hr
  have h1 := pv_reg hok.2.1 hv hT hk ht hr
  have h2 : regX P X k = X ++ [(P, 0, k, ep k, 0, 0, 0, [])] := by unfold regX; rw [hT]
  rw [h2, h1.2]
  exact c_raise hk hv hT (by omega) w
theorem c_decX {k : Nat} (c : Bool) (hk : k < 32) (hv : pv P cap X) (ht : (told P X).2.2.1 k ≠ 0) (hd : (told P X).2.2.2.2.2.2.2.1 k = 0) (w : CE h P cap tmo clk cl cut X sy 0 tE tp an (told P X)) : ev (d + 5) n_X4_decide [.ref 0, .int (nI k), .int (b01 c)] h (fun u => u.1 = none ∧ FS cC h u.2 ∧ CE u.2 P cap tmo clk cl cut (decX P X k (if c then 1 else 0)) sy 0 tE tp an (told P (decX P X k (if c then 1 else 0)))) := by
  obtain ⟨n, ep, tx, bg, ba, ad, lc, de, mq, nx, la, en, hT⟩ := told_ex P X
  have hok := w.ok
  rw [hT] at w ht hd
  have h1 := pv_decide hok.2.1 hv hT hk ht hd (c := if c then 1 else 0) (by split <;> omega)
  have h2 : decX P X k (if c then 1 else 0) = X ++ [(P, 4, k, ep k - 1, (if c then 1 else 0), tx k - 1, 0, [])] := by unfold decX; rw [hT]
  rw [h2, h1.2]
  exact c_decide c hk ht hd hv hT w
theorem c_finX {k : Nat} (hk : k < 32) (hv : pv P cap X) (ht : (told P X).2.2.1 k ≠ 0) (hd : (told P X).2.2.2.2.2.2.2.1 k ≠ 0) (w : CE h P cap tmo clk cl cut X sy 0 tE tp an (told P X)) : ev (d + 6) n_X4_finish [.ref 0, .int (nI k)] h (fun u => u.1 = none ∧ FS cC h u.2 ∧ CE u.2 P cap tmo clk cl cut (finX P X k) sy 0 tE tp an (told P (finX P X k))) := by
  obtain ⟨n, ep, tx, bg, ba, ad, lc, de, mq, nx, la, en, hT⟩ := told_ex P X
  have hok := w.ok
  rw [hT] at w ht hd
  have h1 := fin_ok hok.2.1 hv hT hk ht hd
  rw [h1.2]
  unfold finX
  rw [hT]
  exact c_finish hk ht hd hv hT w
/-- decide and finish, as register, end and tick do it -/
theorem dec_pv {k : Nat} {c : Nat} (hc : c ≤ 1) (hP : P ≤ 8) (hk : k < 32) (hv : pv P cap X) (ht : (told P X).2.2.1 k ≠ 0) (hd : (told P X).2.2.2.2.2.2.2.1 k = 0) : pv P cap (decX P X k c) ∧ (told P (decX P X k c)).2.2.1 k ≠ 0 ∧ (told P (decX P X k c)).2.2.2.2.2.2.2.1 k ≠ 0 := by
  obtain ⟨n, ep, tx, bg, ba, ad, lc, de, mq, nx, la, en, hT⟩ := told_ex P X
  rw [hT] at ht hd
  have h1 := pv_decide hP hv hT hk ht hd hc
  have h2 : decX P X k c = X ++ [(P, 4, k, ep k - 1, c, tx k - 1, 0, [])] := by unfold decX; rw [hT]
  rw [h2, h1.2]
  exact ⟨h1.1, ht, by simp only [va_up_self]; omega⟩
theorem fin_pv {k : Nat} {c : Nat} (hc : c ≤ 1) (hP : P ≤ 8) (hk : k < 32) (hv : pv P cap X) (hn : noDec P X) (ht : (told P X).2.2.1 k ≠ 0) : pv P cap (finX P (decX P X k c) k) ∧ noDec P (finX P (decX P X k c) k) ∧ (told P (finX P (decX P X k c) k)).2.2.1 k = 0 ∧ (told P (finX P (decX P X k c) k)).2.1 = (told P X).2.1 ∧ 16 * (told P (finX P (decX P X k c) k)).1 + 16 + sm (res (told P (finX P (decX P X k c) k)).2.2.1 (told P (finX P (decX P X k c) k)).2.2.2.2.2.2.2.1) 32 ≤ 16000 := by
  obtain ⟨n, ep, tx, bg, ba, ad, lc, de, mq, nx, la, en, hT⟩ := told_ex P X
  unfold noDec at hn
  rw [hT] at hn ht
  obtain ⟨h1, h2, h3⟩ := end_ok hc hP hv hT hk ht (hn k hk)
  unfold noDec
  rw [h2, hT]
  exact ⟨h1, hn, va_up_self _ _ _, rfl, h3⟩
theorem regX_pv {k : Nat} (hP : P ≤ 8) (hk : k < 32) (hv : pv P cap X) (ht : (told P X).2.2.1 k = 0) (hr : 16 * (told P X).1 + 16 + sm (res (told P X).2.2.1 (told P X).2.2.2.2.2.2.2.1) 32 ≤ 16000) : pv P cap (regX P X k) ∧ (told P (regX P X k)).2.2.2.2.2.2.2.1 = (told P X).2.2.2.2.2.2.2.1 ∧ (told P (regX P X k)).2.1 k = (told P X).2.1 k + 1 := by
  obtain ⟨n, ep, tx, bg, ba, ad, lc, de, mq, nx, la, en, hT⟩ := told_ex P X
  rw [hT] at ht hr
  have h1 := pv_reg hP hv hT hk ht hr
  have h2 : regX P X k = X ++ [(P, 0, k, ep k, 0, 0, 0, [])] := by unfold regX; rw [hT]
  rw [h2, h1.2, hT]
  exact ⟨h1.1, rfl, va_up_self _ _ _⟩
end C3
