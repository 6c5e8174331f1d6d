/-! OnceLedger.learn -/
section LE
variable {d : Nat} {h : ix_H} {P cap tmo clk cut nx : Nat} {cl : Bool} {lg : Nat → List En} {tn : Nat → List Nat} {bk : List En} {bt : List Nat} {un : List (Nat × Nat)} {pr : Nat → PS} {mk : Nat → Int32} {tp an : List Nat}
/-- marks out of the LATERs of a key, n entries of the book from i on -/
def mlat (bk : List En) (key : Nat) : Nat → Nat → (Nat → Int32) → (Nat → Int32)
  | _, 0, mk => mk
  | i, n + 1, mk => mlat bk key (i + 1) n (if eK (bk.getD i en0) = 3 ∧ eY (bk.getD i en0) = key then upd mk (eA (bk.getD i en0)) (nI (eB (bk.getD i en0))) else mk)
theorem e_bnum (j w n : Nat) (hj : j < bk.length) (hw : w + n ≤ 16) (hr : RowAt h 8 9 16000 (bk.flatMap encB ++ bt)) : ev (d + 1) n_X0_number [.ref 8, .int (nI (16 * j) + nI w), .int (nI n)] h (fun o => o = (some (.int (nI (beN (((encB (bk.getD j en0)).drop w).take n)))), h)) := by
  rw [nI_add, ← takeB bt hj hw]
  exact e_number (16 * j + w) n hr (by rw [List.length_append, flatB_len]; omega)
theorem l_markL {sc : SC} (key : Nat) (hkey : key < 32) : ∀ (n i : Nat) (h : ix_H) (mk : Nat → Int32), i + n ≤ bk.length → CW h sc lg tn bk bt un pr mk tp an →
    gs none (d + 1) mD_X4_markLaters (3, [(4, .int (nI (16 * i))), (0, .ref 0), (1, .int (nI key)), (3, .int (nI (16 * (i + n))))], [], h) (fun u => u.1 = none ∧ FS cC h u.2 ∧ CW u.2 sc lg tn bk bt un pr (mlat bk key i n mk) tp an) := by
  intro n
  induction n with
  | zero =>
    intro i h mk hi w
    have hle := w.2.2.2.2.2.2.1.2.2.1
    rw [List.length_append, flatB_len] at hle
    refine gs_n 5 a_X4_markLaters_3 rfl ?_
    refine gs_n 6 a_X4_markLaters_5 rfl ?_
    refine gs_ic 77 9 a_X4_markLaters_6 rfl rfl (fun c => ?_) (fun c => ?_)
    · refine gs_vret a_X4_markLaters_77 rfl ?_
      exact ⟨rfl, FS.rf _ _, w⟩
    · exact absurd (nI_le (by omega) (by omega)) c
  | succ n ih =>
    intro i h mk hi w
    have w0 := w
    obtain ⟨w1, w2, w3, w4, w5, ⟨f6, w6, w6'⟩, w7, w8, ⟨f9, w9, w9'⟩, ⟨f10, w10, w10'⟩, w11, w12, w13⟩ := w
    unfold ocell at w1
    have hr1 := w7.1
    have hle := w7.2.2.1
    rw [List.length_append, flatB_len] at hle
    have hij : i < bk.length := by omega
    have hok := w13 _ (getD_mem hij)
    have nextI : ∀ (h2 : ix_H) (mk2 : Nat → Int32), FS cC h h2 → CW h2 sc lg tn bk bt un pr mk2 tp an → mk2 = (if eK (bk.getD i en0) = 3 ∧ eY (bk.getD i en0) = key then upd mk (eA (bk.getD i en0)) (nI (eB (bk.getD i en0))) else mk) → gs none (d + 1) mD_X4_markLaters (71, [(4, .int (nI (16 * i))), (0, .ref 0), (1, .int (nI key)), (3, .int (nI (16 * (i + (n + 1)))))], [], h2) (fun u => u.1 = none ∧ FS cC h u.2 ∧ CW u.2 sc lg tn bk bt un pr (mlat bk key i (n + 1) mk) tp an) := by
      intro h2 mk2 hF2 w2 e2
      refine gs_n 74 a_X4_markLaters_71 rfl ?_
      refine gs_n 3 a_X4_markLaters_74 rfl ?_
      refine gs_w [(4, .int (nI (16 * i) + Int32.ofInt 16)), (0, .ref 0), (1, .int (nI key)), (3, .int (nI (16 * (i + (n + 1)))))] (by simp [ix_nd]) (by intro x hx; simp only [List.mem_cons, List.not_mem_nil, or_false] at hx; rcases hx with rfl | rfl | rfl | rfl <;> rfl) ?_
      rw [show nI (16 * i) + Int32.ofInt 16 = nI (16 * (i + 1)) from nI_add (16 * i) 16, show i + (n + 1) = (i + 1) + n by omega]
      refine gs_post (ih (i + 1) h2 mk2 (by omega) w2) ?_
      rintro u ⟨e1, hF, w⟩
      refine ⟨e1, hF2.trans hF, ?_⟩
      simp only [mlat, ← e2]
      exact w
    refine gs_n 5 a_X4_markLaters_3 rfl ?_
    refine gs_n 6 a_X4_markLaters_5 rfl ?_
    refine gs_ic 77 9 a_X4_markLaters_6 rfl rfl (fun c => ?_) (fun c => ?_)
    · exact absurd c (nI_ge (by omega) (by omega))
    · refine gs_n 10 a_X4_markLaters_9 rfl ?_
      refine gs_get 13 a_X4_markLaters_10 f_4_30 (by first | assumption | exact hs_same _ _ _ | exact (hs_ne _ _ (by first | assumption | decide | omega)).trans (by first | assumption | exact hs_same _ _ _ | exact (hs_ne _ _ (by first | assumption | decide | omega)).trans (by first | assumption | exact hs_same _ _ _ | exact (hs_ne _ _ (by first | assumption | decide | omega)).trans (by first | assumption | exact hs_same _ _ _ | exact (hs_ne _ _ (by first | assumption | decide | omega)).trans (by first | assumption | exact hs_same _ _ _))))) rfl rfl ?_
      refine gs_n 15 a_X4_markLaters_13 rfl ?_
      refine gs_k (nI 4) 16 a_X4_markLaters_15 (by decide +kernel) rfl ?_
      refine gs_n 17 a_X4_markLaters_16 rfl ?_
      refine gs_k (nI 1) 18 a_X4_markLaters_17 (by decide +kernel) rfl ?_
      refine gs_cv 21 a_X4_markLaters_18 k_4_268 q_X0_number (e_bnum i 4 1 hij (by omega) w7) rfl rfl rfl (by simp [Value.category]) (by first | assumption | exact hs_same _ _ _ | exact (hs_ne _ _ (by first | assumption | decide | omega)).trans (by first | assumption | exact hs_same _ _ _ | exact (hs_ne _ _ (by first | assumption | decide | omega)).trans (by first | assumption | exact hs_same _ _ _ | exact (hs_ne _ _ (by first | assumption | decide | omega)).trans (by first | assumption | exact hs_same _ _ _ | exact (hs_ne _ _ (by first | assumption | decide | omega)).trans (by first | assumption | exact hs_same _ _ _))))) rfl (fun v h1 hp => ?_)
      cases hp
      rw [(encB_f _).1, beN1 (by have := hok.1; omega)]
      refine gs_k (nI 3) 22 a_X4_markLaters_21 (by decide +kernel) rfl ?_
      refine gs_ic 71 25 a_X4_markLaters_22 rfl rfl (fun c2 => ?_) (fun c2 => ?_)
      · have c2 : ¬ nI (eK (bk.getD i en0)) = nI 3 := c2
        rw [nI_eq (by have := hok.1; omega) (by omega)] at c2
        exact nextI h mk (FS.rf _ _) w0 (by rw [if_neg (fun z => c2 z.1)])
      · have c2 : nI (eK (bk.getD i en0)) = nI 3 := Classical.byContradiction c2
        rw [nI_eq (by have := hok.1; omega) (by omega)] at c2
        refine gs_n 26 a_X4_markLaters_25 rfl ?_
        refine gs_get 29 a_X4_markLaters_26 f_4_30 (by first | assumption | exact hs_same _ _ _ | exact (hs_ne _ _ (by first | assumption | decide | omega)).trans (by first | assumption | exact hs_same _ _ _ | exact (hs_ne _ _ (by first | assumption | decide | omega)).trans (by first | assumption | exact hs_same _ _ _ | exact (hs_ne _ _ (by first | assumption | decide | omega)).trans (by first | assumption | exact hs_same _ _ _ | exact (hs_ne _ _ (by first | assumption | decide | omega)).trans (by first | assumption | exact hs_same _ _ _))))) rfl rfl ?_
        refine gs_n 31 a_X4_markLaters_29 rfl ?_
        refine gs_k (nI 5) 32 a_X4_markLaters_31 (by decide +kernel) rfl ?_
        refine gs_n 33 a_X4_markLaters_32 rfl ?_
        refine gs_k (nI 1) 34 a_X4_markLaters_33 (by decide +kernel) rfl ?_
        refine gs_cv 37 a_X4_markLaters_34 k_4_268 q_X0_number (e_bnum i 5 1 hij (by omega) w7) rfl rfl rfl (by simp [Value.category]) (by first | assumption | exact hs_same _ _ _ | exact (hs_ne _ _ (by first | assumption | decide | omega)).trans (by first | assumption | exact hs_same _ _ _ | exact (hs_ne _ _ (by first | assumption | decide | omega)).trans (by first | assumption | exact hs_same _ _ _ | exact (hs_ne _ _ (by first | assumption | decide | omega)).trans (by first | assumption | exact hs_same _ _ _ | exact (hs_ne _ _ (by first | assumption | decide | omega)).trans (by first | assumption | exact hs_same _ _ _))))) rfl (fun v h1 hp => ?_)
        cases hp
        rw [(encB_f _).2.1, beN1 (by have := hok.2.1; omega)]
        refine gs_n 38 a_X4_markLaters_37 rfl ?_
        refine gs_ic 71 41 a_X4_markLaters_38 rfl rfl (fun c3 => ?_) (fun c3 => ?_)
        · have c3 : ¬ nI (eY (bk.getD i en0)) = nI key := c3
          rw [nI_eq (by have := hok.2.1; omega) (by omega)] at c3
          exact nextI h mk (FS.rf _ _) w0 (by rw [if_neg (fun z => c3 z.2)])
        · have c3 : nI (eY (bk.getD i en0)) = nI key := Classical.byContradiction c3
          rw [nI_eq (by have := hok.2.1; omega) (by omega)] at c3
          refine gs_n 42 a_X4_markLaters_41 rfl ?_
          refine gs_n 43 a_X4_markLaters_42 rfl ?_
          refine gs_get 46 a_X4_markLaters_43 f_4_30 (by first | assumption | exact hs_same _ _ _ | exact (hs_ne _ _ (by first | assumption | decide | omega)).trans (by first | assumption | exact hs_same _ _ _ | exact (hs_ne _ _ (by first | assumption | decide | omega)).trans (by first | assumption | exact hs_same _ _ _ | exact (hs_ne _ _ (by first | assumption | decide | omega)).trans (by first | assumption | exact hs_same _ _ _ | exact (hs_ne _ _ (by first | assumption | decide | omega)).trans (by first | assumption | exact hs_same _ _ _))))) rfl rfl ?_
          refine gs_n 48 a_X4_markLaters_46 rfl ?_
          refine gs_k (nI 8) 50 a_X4_markLaters_48 (by decide +kernel) rfl ?_
          refine gs_n 51 a_X4_markLaters_50 rfl ?_
          refine gs_k (nI 4) 52 a_X4_markLaters_51 (by decide +kernel) rfl ?_
          refine gs_cv 55 a_X4_markLaters_52 k_4_268 q_X0_number (e_bnum i 8 4 hij (by omega) w7) rfl rfl rfl (by simp [Value.category]) (by first | assumption | exact hs_same _ _ _ | exact (hs_ne _ _ (by first | assumption | decide | omega)).trans (by first | assumption | exact hs_same _ _ _ | exact (hs_ne _ _ (by first | assumption | decide | omega)).trans (by first | assumption | exact hs_same _ _ _ | exact (hs_ne _ _ (by first | assumption | decide | omega)).trans (by first | assumption | exact hs_same _ _ _ | exact (hs_ne _ _ (by first | assumption | decide | omega)).trans (by first | assumption | exact hs_same _ _ _))))) rfl (fun v h1 hp => ?_)
          cases hp
          rw [(encB_f _).2.2.2.1, beN4 hok.2.2.2.1]
          refine gs_n 56 a_X4_markLaters_55 rfl ?_
          refine gs_get 59 a_X4_markLaters_56 f_4_30 (by first | assumption | exact hs_same _ _ _ | exact (hs_ne _ _ (by first | assumption | decide | omega)).trans (by first | assumption | exact hs_same _ _ _ | exact (hs_ne _ _ (by first | assumption | decide | omega)).trans (by first | assumption | exact hs_same _ _ _ | exact (hs_ne _ _ (by first | assumption | decide | omega)).trans (by first | assumption | exact hs_same _ _ _ | exact (hs_ne _ _ (by first | assumption | decide | omega)).trans (by first | assumption | exact hs_same _ _ _))))) rfl rfl ?_
          refine gs_n 61 a_X4_markLaters_59 rfl ?_
          refine gs_k (nI 12) 63 a_X4_markLaters_61 (by decide +kernel) rfl ?_
          refine gs_n 64 a_X4_markLaters_63 rfl ?_
          refine gs_k (nI 4) 65 a_X4_markLaters_64 (by decide +kernel) rfl ?_
          refine gs_cv 68 a_X4_markLaters_65 k_4_268 q_X0_number (e_bnum i 12 4 hij (by omega) w7) rfl rfl rfl (by simp [Value.category]) (by first | assumption | exact hs_same _ _ _ | exact (hs_ne _ _ (by first | assumption | decide | omega)).trans (by first | assumption | exact hs_same _ _ _ | exact (hs_ne _ _ (by first | assumption | decide | omega)).trans (by first | assumption | exact hs_same _ _ _ | exact (hs_ne _ _ (by first | assumption | decide | omega)).trans (by first | assumption | exact hs_same _ _ _ | exact (hs_ne _ _ (by first | assumption | decide | omega)).trans (by first | assumption | exact hs_same _ _ _))))) rfl (fun v h1 hp => ?_)
          cases hp
          rw [(encB_f _).2.2.2.2, beN4 hok.2.2.2.2.1]
          refine gs_cv 71 a_X4_markLaters_68 k_4_286 q_X4_setMark (e_setMark _ _ (hok.2.2.2.2.2 (Or.inl c2)) w0) rfl rfl rfl (by simp [Value.category]) (by first | assumption | exact hs_same _ _ _ | exact (hs_ne _ _ (by first | assumption | decide | omega)).trans (by first | assumption | exact hs_same _ _ _ | exact (hs_ne _ _ (by first | assumption | decide | omega)).trans (by first | assumption | exact hs_same _ _ _ | exact (hs_ne _ _ (by first | assumption | decide | omega)).trans (by first | assumption | exact hs_same _ _ _ | exact (hs_ne _ _ (by first | assumption | decide | omega)).trans (by first | assumption | exact hs_same _ _ _))))) rfl (fun v h2 hp => ?_)
          obtain ⟨e1, hF, w2⟩ := hp
          simp only at e1
          subst e1
          exact nextI h2 _ (FS.of hF (by intro k hk; simp at hk; subst hk; unfold cC; omega)) w2 (by rw [if_pos ⟨c2, c3⟩])
theorem e_markL {sc : SC} (key i n : Nat) (hkey : key < 32) (hi : i + n ≤ bk.length) (w : CW h sc lg tn bk bt un pr mk tp an) : ev (d + 2) n_X4_markLaters [.ref 0, .int (nI key), .int (nI (16 * i)), .int (nI (16 * (i + n)))] h (fun u => u.1 = none ∧ FS cC h u.2 ∧ CW u.2 sc lg tn bk bt un pr (mlat bk key i n mk) tp an) := by
  refine ev_of q_X4_markLaters (Nat.le_of_ble_eq_true rfl) ?_
  refine gs_n 1 a_X4_markLaters_0 rfl ?_
  refine gs_n 3 a_X4_markLaters_1 rfl ?_
  refine gs_w [(4, .int (nI (16 * i))), (0, .ref 0), (1, .int (nI key)), (3, .int (nI (16 * (i + n))))] (by simp [ix_nd]) (by intro x hx; simp only [List.mem_cons, List.not_mem_nil, or_false] at hx; rcases hx with rfl | rfl | rfl | rfl <;> rfl) ?_
  exact l_markL key hkey n i h mk hi w
/-- where a producer's transaction begins in the book -/
def baI (q : PS) : Nat := q.2.2.2.1.toInt.toNat / 16
/-- what the entry at j of the book tells -/
def tellP (bk : List En) (j : Nat) (pr : Nat → PS) : Nat → PS :=
  let e := bk.getD j en0
  let q := pr (eY e)
  match eK e with
  | 0 => va_up pr (eY e) (nI (eE e), q.2)
  | 1 => va_up pr (eY e) (q.1, nI (eB e), nI (eA e), nI (16 * j), q.2.2.2.2)
  | 2 => va_up pr (eY e) (q.1, q.2.1, q.2.2.1, q.2.2.2.1, q.2.2.2.2.1 ||| (nI 1 <<< (nI (eA e) &&& 31)), q.2.2.2.2.2)
  | 3 => va_up pr (eY e) (q.1, q.2.1, q.2.2.1, q.2.2.2.1, q.2.2.2.2.1, q.2.2.2.2.2.1 + nI 1, q.2.2.2.2.2.2)
  | 4 => va_up pr (eY e) (q.1, q.2.1, q.2.2.1, q.2.2.2.1, q.2.2.2.2.1, q.2.2.2.2.2.1, nI (eA e))
  | 5 => va_up pr (eY e) (q.1, -1, -1, q.2.2.2.1, nI 0, nI 0, -1)
  | _ => pr
def tellM (bk : List En) (j : Nat) (pr : Nat → PS) (mk : Nat → Int32) : Nat → Int32 :=
  let e := bk.getD j en0
  if eK e = 5 then (if (pr (eY e)).2.2.2.2.2.2 = nI 1 then mlat bk (eY e) (baI (pr (eY e))) (j - baI (pr (eY e))) mk else mk)
  else if eK e = 6 then upd mk (eA e) (nI (eB e)) else mk
def tellN (bk : List En) (j : Nat) (nx : Nat) : Nat := if eK (bk.getD j en0) = 1 then eB (bk.getD j en0) + 1 else nx
theorem cC_p {k : Nat} (hk : k < 32) : ∀ x, x ∈ [64 + k] → cC x := by
  intro x hx
  simp at hx
  subst hx
  unfold cC
  omega
set_option maxHeartbeats 1000000 in
theorem e_learn (j : Nat) (hj : j < bk.length) (hb : eK (bk.getD j en0) = 1 → eB (bk.getD j en0) + 1 < 2 ^ 30) (hd : eK (bk.getD j en0) = 5 → (pr (eY (bk.getD j en0))).2.2.2.2.2.2 = nI 1 → ∃ i, (pr (eY (bk.getD j en0))).2.2.2.1 = nI (16 * i) ∧ i ≤ j)
    (w : CW h (P, cap, tmo, clk, cl, cut, nx) lg tn bk bt un pr mk tp an) : ev (d + 3) n_X4_learn [.ref 0, .int (nI (16 * j))] h (fun u => u.1 = none ∧ FS cC h u.2 ∧ CW u.2 (P, cap, tmo, clk, cl, cut, tellN bk j nx) lg tn bk bt un (tellP bk j pr) (tellM bk j pr mk) tp an) := by
  have w0 := w
  obtain ⟨w1, w2, w3, w4, w5, ⟨f6, w6, w6'⟩, w7, w8, ⟨f9, w9, w9'⟩, ⟨f10, w10, w10'⟩, w11, w12, w13⟩ := w
  have w1o := w1
  unfold ocell at w1
  have hr1 := w7.1
  have hle := w7.2.2.1
  rw [List.length_append, flatB_len] at hle
  have hok := w13 _ (getD_mem hj)
  have hf := encB_f (bk.getD j en0)
  have bn4 := e_bnum (d := d + 1) j 4 1 hj (by omega) w7
  have bn5 := e_bnum (d := d + 1) j 5 1 hj (by omega) w7
  have bn6 := e_bnum (d := d + 1) j 6 2 hj (by omega) w7
  have bn8 := e_bnum (d := d + 1) j 8 4 hj (by omega) w7
  have bn12 := e_bnum (d := d + 1) j 12 4 hj (by omega) w7
  rw [hf.1, beN1 (by have := hok.1; omega)] at bn4
  rw [hf.2.1, beN1 (by have := hok.2.1; omega)] at bn5
  rw [hf.2.2.1, beN2 hok.2.2.1] at bn6
  rw [hf.2.2.2.1, beN4 hok.2.2.2.1] at bn8
  rw [hf.2.2.2.2, beN4 hok.2.2.2.2.1] at bn12
  have hTP : tellP bk j pr = tellP bk j pr := rfl
  unfold tellP tellM tellN
  generalize hE : bk.getD j en0 = E at hok bn4 bn5 bn6 bn8 bn12 hb hd
  have hk32 : eY E < 32 := hok.2.1
  have hK6 : eK E ≤ 6 := hok.1
  have hc := w12 (eY E) hk32
  have hisK : isK (nI (eY E)) = true := by
    unfold isK
    rw [nI_toInt (by omega)]
    simp
    omega
  refine ev_of q_X4_learn (Nat.le_of_ble_eq_true rfl) ?_
  refine gs_n 1 a_X4_learn_0 rfl ?_
  refine gs_get 4 a_X4_learn_1 f_4_30 (by first | assumption | exact hs_same _ _ _ | exact (hs_ne _ _ (by first | assumption | decide | omega)).trans (by first | assumption | exact hs_same _ _ _ | exact (hs_ne _ _ (by first | assumption | decide | omega)).trans (by first | assumption | exact hs_same _ _ _ | exact (hs_ne _ _ (by first | assumption | decide | omega)).trans (by first | assumption | exact hs_same _ _ _ | exact (hs_ne _ _ (by first | assumption | decide | omega)).trans (by first | assumption | exact hs_same _ _ _))))) rfl rfl ?_
  refine gs_n 5 a_X4_learn_4 rfl ?_
  refine gs_k (nI 5) 6 a_X4_learn_5 (by decide +kernel) rfl ?_
  refine gs_n 7 a_X4_learn_6 rfl ?_
  refine gs_k (nI 1) 8 a_X4_learn_7 (by decide +kernel) rfl ?_
  refine gs_cv 11 a_X4_learn_8 k_4_268 q_X0_number bn5 rfl rfl rfl (by simp [Value.category]) (by first | assumption | exact hs_same _ _ _ | exact (hs_ne _ _ (by first | assumption | decide | omega)).trans (by first | assumption | exact hs_same _ _ _ | exact (hs_ne _ _ (by first | assumption | decide | omega)).trans (by first | assumption | exact hs_same _ _ _ | exact (hs_ne _ _ (by first | assumption | decide | omega)).trans (by first | assumption | exact hs_same _ _ _ | exact (hs_ne _ _ (by first | assumption | decide | omega)).trans (by first | assumption | exact hs_same _ _ _))))) rfl (fun v h1 hp => ?_)
  cases hp
  refine gs_n 12 a_X4_learn_11 rfl ?_
  refine gs_n 13 a_X4_learn_12 rfl ?_
  refine gs_n 14 a_X4_learn_13 rfl ?_
  refine gs_cv 17 a_X4_learn_14 k_4_67 q_X4_isKey (e_isKey _) rfl rfl rfl (by simp [Value.category]) (by first | assumption | exact hs_same _ _ _ | exact (hs_ne _ _ (by first | assumption | decide | omega)).trans (by first | assumption | exact hs_same _ _ _ | exact (hs_ne _ _ (by first | assumption | decide | omega)).trans (by first | assumption | exact hs_same _ _ _ | exact (hs_ne _ _ (by first | assumption | decide | omega)).trans (by first | assumption | exact hs_same _ _ _ | exact (hs_ne _ _ (by first | assumption | decide | omega)).trans (by first | assumption | exact hs_same _ _ _))))) rfl (fun v h1 hp => ?_)
  cases hp
  rw [hisK]
  refine gs_if 21 20 a_X4_learn_17 rfl rfl (fun c => ?_) (fun c => ?_)
  · refine gs_n 22 a_X4_learn_21 rfl ?_
    refine gs_get 25 a_X4_learn_22 f_4_42 (by first | assumption | exact hs_same _ _ _ | exact (hs_ne _ _ (by first | assumption | decide | omega)).trans (by first | assumption | exact hs_same _ _ _ | exact (hs_ne _ _ (by first | assumption | decide | omega)).trans (by first | assumption | exact hs_same _ _ _ | exact (hs_ne _ _ (by first | assumption | decide | omega)).trans (by first | assumption | exact hs_same _ _ _ | exact (hs_ne _ _ (by first | assumption | decide | omega)).trans (by first | assumption | exact hs_same _ _ _))))) rfl rfl ?_
    refine gs_n 26 a_X4_learn_25 rfl ?_
    refine gs_aa (eY E) (64 + eY E) 27 a_X4_learn_26 (by first | assumption | exact hs_same _ _ _ | exact (hs_ne _ _ (by first | assumption | decide | omega)).trans (by first | assumption | exact hs_same _ _ _ | exact (hs_ne _ _ (by first | assumption | decide | omega)).trans (by first | assumption | exact hs_same _ _ _ | exact (hs_ne _ _ (by first | assumption | decide | omega)).trans (by first | assumption | exact hs_same _ _ _ | exact (hs_ne _ _ (by first | assumption | decide | omega)).trans (by first | assumption | exact hs_same _ _ _))))) rfl (by omega) (by decide) (by simp) (w9' _ hk32) rfl ?_
    refine gs_n 28 a_X4_learn_27 rfl ?_
    refine gs_n 29 a_X4_learn_28 rfl ?_
    refine gs_get 32 a_X4_learn_29 f_4_30 (by first | assumption | exact hs_same _ _ _ | exact (hs_ne _ _ (by first | assumption | decide | omega)).trans (by first | assumption | exact hs_same _ _ _ | exact (hs_ne _ _ (by first | assumption | decide | omega)).trans (by first | assumption | exact hs_same _ _ _ | exact (hs_ne _ _ (by first | assumption | decide | omega)).trans (by first | assumption | exact hs_same _ _ _ | exact (hs_ne _ _ (by first | assumption | decide | omega)).trans (by first | assumption | exact hs_same _ _ _))))) rfl rfl ?_
    refine gs_n 33 a_X4_learn_32 rfl ?_
    refine gs_k (nI 8) 35 a_X4_learn_33 (by decide +kernel) rfl ?_
    refine gs_n 36 a_X4_learn_35 rfl ?_
    refine gs_k (nI 4) 37 a_X4_learn_36 (by decide +kernel) rfl ?_
    refine gs_cv 40 a_X4_learn_37 k_4_268 q_X0_number bn8 rfl rfl rfl (by simp [Value.category]) (by first | assumption | exact hs_same _ _ _ | exact (hs_ne _ _ (by first | assumption | decide | omega)).trans (by first | assumption | exact hs_same _ _ _ | exact (hs_ne _ _ (by first | assumption | decide | omega)).trans (by first | assumption | exact hs_same _ _ _ | exact (hs_ne _ _ (by first | assumption | decide | omega)).trans (by first | assumption | exact hs_same _ _ _ | exact (hs_ne _ _ (by first | assumption | decide | omega)).trans (by first | assumption | exact hs_same _ _ _))))) rfl (fun v h1 hp => ?_)
    cases hp
    refine gs_n 42 a_X4_learn_40 rfl ?_
    refine gs_n 43 a_X4_learn_42 rfl ?_
    refine gs_get 46 a_X4_learn_43 f_4_30 (by first | assumption | exact hs_same _ _ _ | exact (hs_ne _ _ (by first | assumption | decide | omega)).trans (by first | assumption | exact hs_same _ _ _ | exact (hs_ne _ _ (by first | assumption | decide | omega)).trans (by first | assumption | exact hs_same _ _ _ | exact (hs_ne _ _ (by first | assumption | decide | omega)).trans (by first | assumption | exact hs_same _ _ _ | exact (hs_ne _ _ (by first | assumption | decide | omega)).trans (by first | assumption | exact hs_same _ _ _))))) rfl rfl ?_
    refine gs_n 47 a_X4_learn_46 rfl ?_
    refine gs_k (nI 12) 49 a_X4_learn_47 (by decide +kernel) rfl ?_
    refine gs_n 50 a_X4_learn_49 rfl ?_
    refine gs_k (nI 4) 51 a_X4_learn_50 (by decide +kernel) rfl ?_
    refine gs_cv 54 a_X4_learn_51 k_4_268 q_X0_number bn12 rfl rfl rfl (by simp [Value.category]) (by first | assumption | exact hs_same _ _ _ | exact (hs_ne _ _ (by first | assumption | decide | omega)).trans (by first | assumption | exact hs_same _ _ _ | exact (hs_ne _ _ (by first | assumption | decide | omega)).trans (by first | assumption | exact hs_same _ _ _ | exact (hs_ne _ _ (by first | assumption | decide | omega)).trans (by first | assumption | exact hs_same _ _ _ | exact (hs_ne _ _ (by first | assumption | decide | omega)).trans (by first | assumption | exact hs_same _ _ _))))) rfl (fun v h1 hp => ?_)
    cases hp
    refine gs_n 56 a_X4_learn_54 rfl ?_
    refine gs_n 57 a_X4_learn_56 rfl ?_
    refine gs_get 60 a_X4_learn_57 f_4_30 (by first | assumption | exact hs_same _ _ _ | exact (hs_ne _ _ (by first | assumption | decide | omega)).trans (by first | assumption | exact hs_same _ _ _ | exact (hs_ne _ _ (by first | assumption | decide | omega)).trans (by first | assumption | exact hs_same _ _ _ | exact (hs_ne _ _ (by first | assumption | decide | omega)).trans (by first | assumption | exact hs_same _ _ _ | exact (hs_ne _ _ (by first | assumption | decide | omega)).trans (by first | assumption | exact hs_same _ _ _))))) rfl rfl ?_
    refine gs_n 61 a_X4_learn_60 rfl ?_
    refine gs_k (nI 4) 62 a_X4_learn_61 (by decide +kernel) rfl ?_
    refine gs_n 63 a_X4_learn_62 rfl ?_
    refine gs_k (nI 1) 64 a_X4_learn_63 (by decide +kernel) rfl ?_
    refine gs_cv 67 a_X4_learn_64 k_4_268 q_X0_number bn4 rfl rfl rfl (by simp [Value.category]) (by first | assumption | exact hs_same _ _ _ | exact (hs_ne _ _ (by first | assumption | decide | omega)).trans (by first | assumption | exact hs_same _ _ _ | exact (hs_ne _ _ (by first | assumption | decide | omega)).trans (by first | assumption | exact hs_same _ _ _ | exact (hs_ne _ _ (by first | assumption | decide | omega)).trans (by first | assumption | exact hs_same _ _ _ | exact (hs_ne _ _ (by first | assumption | decide | omega)).trans (by first | assumption | exact hs_same _ _ _))))) rfl (fun v h1 hp => ?_)
    cases hp
    rcases (by omega : eK E = 0 ∨ eK E = 1 ∨ eK E = 2 ∨ eK E = 3 ∨ eK E = 4 ∨ eK E = 5 ∨ eK E = 6) with z | z | z | z | z | z | z
    · simp only [z]
      refine gs_n 108 a_X4_learn_67 rfl ?_
      refine gs_n 109 a_X4_learn_108 rfl ?_
      refine gs_n 110 a_X4_learn_109 rfl ?_
      refine gs_get 113 a_X4_learn_110 f_4_30 (by first | assumption | exact hs_same _ _ _ | exact (hs_ne _ _ (by first | assumption | decide | omega)).trans (by first | assumption | exact hs_same _ _ _ | exact (hs_ne _ _ (by first | assumption | decide | omega)).trans (by first | assumption | exact hs_same _ _ _ | exact (hs_ne _ _ (by first | assumption | decide | omega)).trans (by first | assumption | exact hs_same _ _ _ | exact (hs_ne _ _ (by first | assumption | decide | omega)).trans (by first | assumption | exact hs_same _ _ _))))) rfl rfl ?_
      refine gs_n 114 a_X4_learn_113 rfl ?_
      refine gs_k (nI 6) 116 a_X4_learn_114 (by decide +kernel) rfl ?_
      refine gs_n 117 a_X4_learn_116 rfl ?_
      refine gs_k (nI 2) 118 a_X4_learn_117 (by decide +kernel) rfl ?_
      refine gs_cv 121 a_X4_learn_118 k_4_268 q_X0_number bn6 rfl rfl rfl (by simp [Value.category]) (by first | assumption | exact hs_same _ _ _ | exact (hs_ne _ _ (by first | assumption | decide | omega)).trans (by first | assumption | exact hs_same _ _ _ | exact (hs_ne _ _ (by first | assumption | decide | omega)).trans (by first | assumption | exact hs_same _ _ _ | exact (hs_ne _ _ (by first | assumption | decide | omega)).trans (by first | assumption | exact hs_same _ _ _ | exact (hs_ne _ _ (by first | assumption | decide | omega)).trans (by first | assumption | exact hs_same _ _ _))))) rfl (fun v h1 hp => ?_)
      cases hp
      refine gs_put 124 _ a_X4_learn_121 f_4_88 (by first | assumption | exact hs_same _ _ _ | exact (hs_ne _ _ (by first | assumption | decide | omega)).trans (by first | assumption | exact hs_same _ _ _ | exact (hs_ne _ _ (by first | assumption | decide | omega)).trans (by first | assumption | exact hs_same _ _ _ | exact (hs_ne _ _ (by first | assumption | decide | omega)).trans (by first | assumption | exact hs_same _ _ _ | exact (hs_ne _ _ (by first | assumption | decide | omega)).trans (by first | assumption | exact hs_same _ _ _))))) (Nat.le_of_ble_eq_true rfl) rfl (fun z => absurd z (by decide)) rfl rfl ?_
      refine gs_n 221 a_X4_learn_124 rfl ?_
      refine gs_vret a_X4_learn_221 rfl ?_
      exact ⟨rfl, FS.of (Fr.set _ (by simp)) (cC_p hk32), w0.prod hk32 (Fr.set _ (by simp)) (hs_same _ _ _)⟩
    · simp only [z]
      refine gs_n 127 a_X4_learn_67 rfl ?_
      refine gs_n 128 a_X4_learn_127 rfl ?_
      refine gs_n 130 a_X4_learn_128 rfl ?_
      refine gs_n 132 a_X4_learn_130 rfl ?_
      refine gs_n 133 a_X4_learn_132 rfl ?_
      refine gs_cv 136 a_X4_learn_133 k_4_271 q_X2_openTransaction (e_openT _ _ _ hc) rfl rfl rfl (by simp [Value.category]) (by first | assumption | exact hs_same _ _ _ | exact (hs_ne _ _ (by first | assumption | decide | omega)).trans (by first | assumption | exact hs_same _ _ _ | exact (hs_ne _ _ (by first | assumption | decide | omega)).trans (by first | assumption | exact hs_same _ _ _ | exact (hs_ne _ _ (by first | assumption | decide | omega)).trans (by first | assumption | exact hs_same _ _ _ | exact (hs_ne _ _ (by first | assumption | decide | omega)).trans (by first | assumption | exact hs_same _ _ _))))) rfl (fun v h2 hp => ?_)
      obtain ⟨e1, hF, hc2⟩ := hp
      simp only at e1
      subst e1
      have w2' := w0.prod hk32 hF (s := ((pr (eY E)).1, nI (eB E), nI (eA E), nI (16 * j), (pr (eY E)).2.2.2.2)) hc2
      have w21 := w2'.1
      unfold ocell at w21
      refine gs_n 137 a_X4_learn_136 rfl ?_
      refine gs_n 139 a_X4_learn_137 rfl ?_
      refine gs_k (nI 1) 140 a_X4_learn_139 (by decide +kernel) rfl ?_
      refine gs_n 141 a_X4_learn_140 rfl ?_
      refine gs_put 144 _ a_X4_learn_141 f_4_95 (by first | assumption | exact hs_same _ _ _ | exact (hs_ne _ _ (by first | assumption | decide | omega)).trans (by first | assumption | exact hs_same _ _ _ | exact (hs_ne _ _ (by first | assumption | decide | omega)).trans (by first | assumption | exact hs_same _ _ _ | exact (hs_ne _ _ (by first | assumption | decide | omega)).trans (by first | assumption | exact hs_same _ _ _ | exact (hs_ne _ _ (by first | assumption | decide | omega)).trans (by first | assumption | exact hs_same _ _ _))))) (Nat.le_of_ble_eq_true rfl) rfl (fun z => absurd z (by decide)) rfl rfl ?_
      refine gs_n 221 a_X4_learn_144 rfl ?_
      refine gs_vret a_X4_learn_221 rfl ?_
      refine ⟨rfl, (FS.of hF (cC_p hk32)).trans (FS.of (Fr.set _ (List.mem_singleton.mpr rfl)) (by intro k hk; simp at hk; subst hk; unfold cC; omega)), w2'.obj (Fr.set _ (by simp)) ?_ ?_⟩
      · rw [hs_same]
        show (Sum.inr (4, [_, _, _, _, _, _, _, _, _, _, _, _, _, _, Value.int (nI (eB E) + nI 1)]) : ix_E) = _
        rw [nI_add]
        rfl
      · exact ⟨w2.1, w2.2.1, w2.2.2.1, w2.2.2.2.1, w2.2.2.2.2.1, w2.2.2.2.2.2.1, w2.2.2.2.2.2.2.1, w2.2.2.2.2.2.2.2.1, hb z⟩
    · simp only [z]
      refine gs_n 147 a_X4_learn_67 rfl ?_
      refine gs_n 148 a_X4_learn_147 rfl ?_
      refine gs_n 149 a_X4_learn_148 rfl ?_
      refine gs_get 152 a_X4_learn_149 f_4_211 (by first | assumption | exact hs_same _ _ _ | exact (hs_ne _ _ (by first | assumption | decide | omega)).trans (by first | assumption | exact hs_same _ _ _ | exact (hs_ne _ _ (by first | assumption | decide | omega)).trans (by first | assumption | exact hs_same _ _ _ | exact (hs_ne _ _ (by first | assumption | decide | omega)).trans (by first | assumption | exact hs_same _ _ _ | exact (hs_ne _ _ (by first | assumption | decide | omega)).trans (by first | assumption | exact hs_same _ _ _))))) rfl rfl ?_
      refine gs_k (nI 1) 153 a_X4_learn_152 (by decide +kernel) rfl ?_
      refine gs_n 155 a_X4_learn_153 rfl ?_
      refine gs_n 156 a_X4_learn_155 rfl ?_
      refine gs_n 157 a_X4_learn_156 rfl ?_
      refine gs_put 160 _ a_X4_learn_157 f_4_211 (by first | assumption | exact hs_same _ _ _ | exact (hs_ne _ _ (by first | assumption | decide | omega)).trans (by first | assumption | exact hs_same _ _ _ | exact (hs_ne _ _ (by first | assumption | decide | omega)).trans (by first | assumption | exact hs_same _ _ _ | exact (hs_ne _ _ (by first | assumption | decide | omega)).trans (by first | assumption | exact hs_same _ _ _ | exact (hs_ne _ _ (by first | assumption | decide | omega)).trans (by first | assumption | exact hs_same _ _ _))))) (Nat.le_of_ble_eq_true rfl) rfl (fun z => absurd z (by decide)) rfl rfl ?_
      refine gs_n 221 a_X4_learn_160 rfl ?_
      refine gs_vret a_X4_learn_221 rfl ?_
      exact ⟨rfl, FS.of (Fr.set _ (by simp)) (cC_p hk32), w0.prod hk32 (Fr.set _ (by simp)) (hs_same _ _ _)⟩
    · simp only [z]
      refine gs_n 163 a_X4_learn_67 rfl ?_
      refine gs_n 164 a_X4_learn_163 rfl ?_
      refine gs_n 165 a_X4_learn_164 rfl ?_
      refine gs_get 168 a_X4_learn_165 f_4_214 (by first | assumption | exact hs_same _ _ _ | exact (hs_ne _ _ (by first | assumption | decide | omega)).trans (by first | assumption | exact hs_same _ _ _ | exact (hs_ne _ _ (by first | assumption | decide | omega)).trans (by first | assumption | exact hs_same _ _ _ | exact (hs_ne _ _ (by first | assumption | decide | omega)).trans (by first | assumption | exact hs_same _ _ _ | exact (hs_ne _ _ (by first | assumption | decide | omega)).trans (by first | assumption | exact hs_same _ _ _))))) rfl rfl ?_
      refine gs_k (nI 1) 169 a_X4_learn_168 (by decide +kernel) rfl ?_
      refine gs_n 170 a_X4_learn_169 rfl ?_
      refine gs_put 173 _ a_X4_learn_170 f_4_214 (by first | assumption | exact hs_same _ _ _ | exact (hs_ne _ _ (by first | assumption | decide | omega)).trans (by first | assumption | exact hs_same _ _ _ | exact (hs_ne _ _ (by first | assumption | decide | omega)).trans (by first | assumption | exact hs_same _ _ _ | exact (hs_ne _ _ (by first | assumption | decide | omega)).trans (by first | assumption | exact hs_same _ _ _ | exact (hs_ne _ _ (by first | assumption | decide | omega)).trans (by first | assumption | exact hs_same _ _ _))))) (Nat.le_of_ble_eq_true rfl) rfl (fun z => absurd z (by decide)) rfl rfl ?_
      refine gs_n 221 a_X4_learn_173 rfl ?_
      refine gs_vret a_X4_learn_221 rfl ?_
      exact ⟨rfl, FS.of (Fr.set _ (by simp)) (cC_p hk32), w0.prod hk32 (Fr.set _ (by simp)) (hs_same _ _ _)⟩
    · simp only [z]
      refine gs_n 176 a_X4_learn_67 rfl ?_
      refine gs_n 177 a_X4_learn_176 rfl ?_
      refine gs_n 179 a_X4_learn_177 rfl ?_
      refine gs_put 182 _ a_X4_learn_179 f_4_274 (by first | assumption | exact hs_same _ _ _ | exact (hs_ne _ _ (by first | assumption | decide | omega)).trans (by first | assumption | exact hs_same _ _ _ | exact (hs_ne _ _ (by first | assumption | decide | omega)).trans (by first | assumption | exact hs_same _ _ _ | exact (hs_ne _ _ (by first | assumption | decide | omega)).trans (by first | assumption | exact hs_same _ _ _ | exact (hs_ne _ _ (by first | assumption | decide | omega)).trans (by first | assumption | exact hs_same _ _ _))))) (Nat.le_of_ble_eq_true rfl) rfl (fun z => absurd z (by decide)) rfl rfl ?_
      refine gs_n 221 a_X4_learn_182 rfl ?_
      refine gs_vret a_X4_learn_221 rfl ?_
      exact ⟨rfl, FS.of (Fr.set _ (by simp)) (cC_p hk32), w0.prod hk32 (Fr.set _ (by simp)) (hs_same _ _ _)⟩
    · simp only [z]
      refine gs_n 185 a_X4_learn_67 rfl ?_
      refine gs_n 186 a_X4_learn_185 rfl ?_
      refine gs_get 189 a_X4_learn_186 f_4_274 (by first | assumption | exact hs_same _ _ _ | exact (hs_ne _ _ (by first | assumption | decide | omega)).trans (by first | assumption | exact hs_same _ _ _ | exact (hs_ne _ _ (by first | assumption | decide | omega)).trans (by first | assumption | exact hs_same _ _ _ | exact (hs_ne _ _ (by first | assumption | decide | omega)).trans (by first | assumption | exact hs_same _ _ _ | exact (hs_ne _ _ (by first | assumption | decide | omega)).trans (by first | assumption | exact hs_same _ _ _))))) rfl rfl ?_
      refine gs_k (nI 1) 190 a_X4_learn_189 (by decide +kernel) rfl ?_
      refine gs_ic 203 193 a_X4_learn_190 rfl rfl (fun c2 => ?_) (fun c2 => ?_)
      · have c2 : ¬ (pr (eY E)).2.2.2.2.2.2 = nI 1 := c2
        refine gs_n 204 a_X4_learn_203 rfl ?_
        refine gs_cv 207 a_X4_learn_204 k_4_283 q_X2_closeTransaction (e_closeT hc) rfl rfl rfl (by simp [Value.category]) (by first | assumption | exact hs_same _ _ _ | exact (hs_ne _ _ (by first | assumption | decide | omega)).trans (by first | assumption | exact hs_same _ _ _ | exact (hs_ne _ _ (by first | assumption | decide | omega)).trans (by first | assumption | exact hs_same _ _ _ | exact (hs_ne _ _ (by first | assumption | decide | omega)).trans (by first | assumption | exact hs_same _ _ _ | exact (hs_ne _ _ (by first | assumption | decide | omega)).trans (by first | assumption | exact hs_same _ _ _))))) rfl (fun v h2 hp => ?_)
        obtain ⟨e1, hF, hc2⟩ := hp
        simp only at e1
        subst e1
        refine gs_n 221 a_X4_learn_207 rfl ?_
        refine gs_vret a_X4_learn_221 rfl ?_
        refine ⟨rfl, FS.of hF (cC_p hk32), ?_⟩
        simp only [if_neg c2, if_true]
        exact w0.prod hk32 hF (s := ((pr (eY E)).1, -1, -1, (pr (eY E)).2.2.2.1, nI 0, nI 0, -1)) hc2
      · have c2 : (pr (eY E)).2.2.2.2.2.2 = nI 1 := Classical.byContradiction c2
        obtain ⟨i, hi, hij⟩ := hd z c2
        have hba : baI (pr (eY E)) = i := by
          unfold baI
          rw [hi, nI_toInt (by omega)]
          omega
        refine gs_n 194 a_X4_learn_193 rfl ?_
        refine gs_n 195 a_X4_learn_194 rfl ?_
        refine gs_n 196 a_X4_learn_195 rfl ?_
        refine gs_get 199 a_X4_learn_196 f_4_277 (by first | assumption | exact hs_same _ _ _ | exact (hs_ne _ _ (by first | assumption | decide | omega)).trans (by first | assumption | exact hs_same _ _ _ | exact (hs_ne _ _ (by first | assumption | decide | omega)).trans (by first | assumption | exact hs_same _ _ _ | exact (hs_ne _ _ (by first | assumption | decide | omega)).trans (by first | assumption | exact hs_same _ _ _ | exact (hs_ne _ _ (by first | assumption | decide | omega)).trans (by first | assumption | exact hs_same _ _ _))))) rfl rfl ?_
        refine gs_n 200 a_X4_learn_199 rfl ?_
        refine gs_at_2 (nI (16 * i)) hi ?_
        have hml := e_markL (d := d) (eY E) i (j - i) hk32 (by omega) w0
        rw [show i + (j - i) = j by omega] at hml
        refine gs_cv 203 a_X4_learn_200 k_4_280 q_X4_markLaters hml rfl rfl rfl (by simp [Value.category]) (by first | assumption | exact hs_same _ _ _ | exact (hs_ne _ _ (by first | assumption | decide | omega)).trans (by first | assumption | exact hs_same _ _ _ | exact (hs_ne _ _ (by first | assumption | decide | omega)).trans (by first | assumption | exact hs_same _ _ _ | exact (hs_ne _ _ (by first | assumption | decide | omega)).trans (by first | assumption | exact hs_same _ _ _ | exact (hs_ne _ _ (by first | assumption | decide | omega)).trans (by first | assumption | exact hs_same _ _ _))))) rfl (fun v h2 hp => ?_)
        obtain ⟨e1, hF, w2'⟩ := hp
        simp only at e1
        subst e1
        have hc' := w2'.2.2.2.2.2.2.2.2.2.2.2.1 (eY E) hk32
        refine gs_n 204 a_X4_learn_203 rfl ?_
        refine gs_cv 207 a_X4_learn_204 k_4_283 q_X2_closeTransaction (e_closeT hc') rfl rfl rfl (by simp [Value.category]) (by first | assumption | exact hs_same _ _ _ | exact (hs_ne _ _ (by first | assumption | decide | omega)).trans (by first | assumption | exact hs_same _ _ _ | exact (hs_ne _ _ (by first | assumption | decide | omega)).trans (by first | assumption | exact hs_same _ _ _ | exact (hs_ne _ _ (by first | assumption | decide | omega)).trans (by first | assumption | exact hs_same _ _ _ | exact (hs_ne _ _ (by first | assumption | decide | omega)).trans (by first | assumption | exact hs_same _ _ _))))) rfl (fun v h3 hp => ?_)
        obtain ⟨e1, hF3, hc2⟩ := hp
        simp only at e1
        subst e1
        refine gs_n 221 a_X4_learn_207 rfl ?_
        refine gs_vret a_X4_learn_221 rfl ?_
        refine ⟨rfl, hF.trans (FS.of hF3 (cC_p hk32)), ?_⟩
        simp only [if_pos c2, if_true, hba]
        exact w2'.prod hk32 hF3 (s := ((pr (eY E)).1, -1, -1, (pr (eY E)).2.2.2.1, nI 0, nI 0, -1)) hc2
    · simp only [z]
      refine gs_n 210 a_X4_learn_67 rfl ?_
      refine gs_n 211 a_X4_learn_210 rfl ?_
      refine gs_n 213 a_X4_learn_211 rfl ?_
      refine gs_n 215 a_X4_learn_213 rfl ?_
      refine gs_cv 218 a_X4_learn_215 k_4_286 q_X4_setMark (e_setMark _ _ (hok.2.2.2.2.2 (Or.inr z)) w0) rfl rfl rfl (by simp [Value.category]) (by first | assumption | exact hs_same _ _ _ | exact (hs_ne _ _ (by first | assumption | decide | omega)).trans (by first | assumption | exact hs_same _ _ _ | exact (hs_ne _ _ (by first | assumption | decide | omega)).trans (by first | assumption | exact hs_same _ _ _ | exact (hs_ne _ _ (by first | assumption | decide | omega)).trans (by first | assumption | exact hs_same _ _ _ | exact (hs_ne _ _ (by first | assumption | decide | omega)).trans (by first | assumption | exact hs_same _ _ _))))) rfl (fun v h2 hp => ?_)
      obtain ⟨e1, hF, w2'⟩ := hp
      simp only at e1
      subst e1
      refine gs_n 221 a_X4_learn_218 rfl ?_
      refine gs_vret a_X4_learn_221 rfl ?_
      exact ⟨rfl, FS.of hF (by intro k hk; simp at hk; subst hk; unfold cC; omega), w2'⟩
  · exact absurd ((b01_ne true).mpr rfl) c
end LE
