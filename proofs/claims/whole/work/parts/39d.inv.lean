/-! WHAT HOLDS, HOLDS AFTER EACH CALL -/
section IV
variable {P cap tmo clk cut sy torn : Nat} {cl : Bool} {X : List En} {tE : En} {tp an : List Nat} {n nx : Nat} {ep tx bg ba lc de mq en : Nat → Nat} {ad : Nat → Int32} {la : List (Nat × Nat × Nat)}
theorem qv_nil (P : Nat) : qv P [] := by
  intro i hi
  exact absurd hi (by simp)
theorem qv_snoc {e : En} (h : qv P X) (he : eF e ≠ P → eK e ≤ 1 → eA e ≤ X.length) : qv P (X ++ [e]) := by
  intro i hi
  by_cases z : i < X.length
  · rw [getD_sn z]
    exact h i z
  · have : i = X.length := by rw [List.length_append] at hi; simp at hi; omega
    subst this
    rw [getD_last]
    exact he
theorem getD_take {l : List En} {i j : Nat} (h : i < j) : (l.take j).getD i en0 = l.getD i en0 := by
  simp [List.getD, List.getElem?_take, h]
theorem qv_take (h : qv P X) (j : Nat) : qv P (X.take j) := by
  intro i hi
  rw [List.length_take] at hi
  rw [getD_take (by omega)]
  exact h i (by omega)
theorem qv_finR {E t K k : Nat} {m : Int32} (hK : 2 ≤ K) : ∀ (j p : Nat) (Y : List En), qv P Y → qv P (finR E t K k m p j Y) := by
  intro j
  induction j with
  | zero => intro p Y h; exact h
  | succ j ih =>
    intro p Y h
    simp only [finR]
    refine ih (p + 1) _ ?_
    split
    · exact qv_snoc h (fun _ h2 => by have h3 : K ≤ 1 := h2; omega)
    · exact h
theorem qv_finX {k : Nat} (hd : (told P X).2.2.2.2.2.2.2.1 k ≤ 2) (h : qv P X) : qv P (finX P X k) := by
  unfold finX
  exact qv_snoc (qv_finR (by omega) _ _ _ h) (fun z => absurd rfl z)
theorem qv_decX {k c : Nat} (h : qv P X) : qv P (decX P X k c) := qv_snoc h (fun z => absurd rfl z)
theorem qv_regX {k : Nat} (h : qv P X) : qv P (regX P X k) := qv_snoc h (fun z => absurd rfl z)
theorem de_le (hv : pv P cap X) {k : Nat} (hk : k < 32) : (told P X).2.2.2.2.2.2.2.1 k ≤ 2 := by
  obtain ⟨n, ep, tx, bg, ba, ad, lc, de, mq, nx, la, en, hT⟩ := told_ex P X
  have hg : GT P cap X (n, ep, tx, bg, ba, ad, lc, de, mq, nx, la, en) := hT ▸ pv_all hv
  rw [hT]
  exact (hg.1.2.2.2.2.1 k hk).2.2.1
theorem nxt_le (h : qv P X) {p k E : Nat} (hp : p < P) : nxt (fl p X) k E ≤ X.length := by
  unfold nxt
  cases hf : (fl p X).reverse.find? (sent k E) with
  | none => exact Nat.zero_le _
  | some e =>
    simp only
    have h1 := List.find?_some hf
    have h2 := fl_mem (List.mem_reverse.mp (List.mem_of_find?_eq_some hf))
    obtain ⟨i, hi, he⟩ := List.getElem_of_mem h2.1
    have h3 : X.getD i en0 = e := by simp [List.getD, List.getElem?_eq_getElem hi, he]
    have h4 := h i hi
    rw [h3] at h4
    unfold sent at h1
    rw [Bool.and_eq_true] at h1
    have := h4 (by omega) (of_decide_eq_true h1.1)
    omega
theorem due_has (hv : pv P cap X) (hT : told P X = (n, ep, tx, bg, ba, ad, lc, de, mq, nx, la, en)) (hn : ∀ k, k < 32 → de k = 0) (hP : P ≤ 8) {p : Nat} (hp : p < P) : cnt (dueE p X tx ad) 32 = cnt (fun k => hasB (ad k) p) 32 := by
  have hg : GT P cap X (n, ep, tx, bg, ba, ad, lc, de, mq, nx, la, en) := hT ▸ pv_all hv
  obtain ⟨⟨a1, a2, a3, a4, a5, a6, a7, a8⟩, l, ⟨e1, e2, e3⟩, f, ⟨r1, r2⟩⟩ := hg
  refine cnt_same (fun k hk => ?_)
  unfold dueE
  by_cases z : tx k = 0
  · rw [((a5 k hk).2.2.2.2.2.2 z).2.1, hasB_0 (by omega)]
    rfl
  · rw [e3 k hk z (hn k hk) p hp]
    simp
def sX1 (P : Nat) (X : List En) (k p : Nat) (part : Bool) : List En := if (part && !hasB ((told P X).2.2.2.2.2.1 k) p) = true then X ++ [(P, 2, k, (told P X).2.1 k - 1, p, 0, 0, [])] else X
theorem snd_ok {k p : Nat} {part : Bool} (hP : P ≤ 8) (hv : pv P cap X) (hT : told P X = (n, ep, tx, bg, ba, ad, lc, de, mq, nx, la, en)) (hn : ∀ j, j < 32 → de j = 0) (hk : k < 32) (hp : p < P) (hm : part = true → tx k ≠ 0) (hr1 : bytesP p X + 14 + tp.length + 14 * (cnt (fun k => hasB (ad k) p) 32 + (if (part && !hasB (ad k) p) = true then 1 else 0)) ≤ cap) (hr2 : (part && !hasB (ad k) p) = true → bkF (n, ep, tx, bg, ba, ad, lc, de, mq, nx, la, en) 0 = true) :
    ∃ n1 ad1, pv P cap (sX1 P X k p part) ∧ told P (sX1 P X k p part) = (n1, ep, tx, bg, ba, ad1, lc, de, mq, nx, la, en) ∧ fl p (sX1 P X k p part) = fl p X ∧ (part = true → hasB (ad1 k) p = true) ∧ bytesP p X + 14 + tp.length + 14 * cnt (dueE p (sX1 P X k p part) tx ad1) 32 ≤ cap ∧ n1 ≤ n + 1 ∧ X.length ≤ (sX1 P X k p part).length := by
  unfold sX1
  rw [hT]
  simp only
  by_cases c : (part && !hasB (ad k) p) = true
  · rw [if_pos c] at hr1 ⊢
    have hb := hr2 c
    rw [Bool.and_eq_true] at c
    have hnb : hasB (ad k) p = false := by simpa using c.2
    have hb' : 16 * n + 16 + 48 * (cnt (fun k => !decide (tx k = 0)) 32 + 0) ≤ 16000 := of_decide_eq_true hb
    have hsm := noDec_sm (tx := tx) hn
    have h1 := pv_add hP hv hT hk (hm c.1) (hn k hk) hp hnb (by omega) (by rw [due_has hv hT hn hP hp]; omega)
    have h2 := due_has h1.1 h1.2 hn hP hp
    have hor : hasB (ad k ||| (nI 1 <<< (nI p &&& 31))) p = true := by rw [hasB_or _ (by omega) (by omega)]; simp
    have h3 := cnt_diff (f := fun k => hasB (ad k) p) (f' := fun j => hasB (va_up ad k (ad k ||| (nI 1 <<< (nI p &&& 31))) j) p) (k := k) (n := 32) (fun i _ z => by simp only [va_up_ne _ _ z]) hk
    simp only [va_up_self, hnb, hor] at h3
    refine ⟨n + 1, _, h1.1, h1.2, fl_b hp rfl, fun _ => by rw [va_up_self]; exact hor, ?_, Nat.le_refl _, by rw [List.length_append]; omega⟩
    rw [h2]
    simp at h3
    omega
  · rw [if_neg c] at hr1 ⊢
    refine ⟨n, ad, hv, hT, rfl, fun hpt => ?_, by rw [due_has hv hT hn hP hp]; omega, by omega, Nat.le_refl _⟩
    rw [hpt] at c
    simpa using c
end IV
