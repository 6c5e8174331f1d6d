/-! The reference: sizes, counts -/
section R1
variable {d : Nat} {h : ix_H} {P cap tmo clk cut sy torn : Nat} {cl : Bool} {X : List En} {tE : En} {tp an : List Nat} {n nx : Nat} {ep tx bg ba lc de mq en : Nat → Nat} {ad : Nat → Int32} {la : List (Nat × Nat × Nat)} {T : TS} {s : MS} {ar : Nat → Nat → Int32}
theorem r_sizeOf {e : En} (i : Nat) (hi : i < 4200) (hA : AtA ar i e) (hok : okM P e) (hP : P ≤ 8) (w : MW h s ar) (hs : s.1 = P) : ev (d + 1) n_X5_sizeOf [.ref 96, .int (nI i)] h (fun u => u = (some (.int (nI (sz P e))), h)) := by
  obtain ⟨g0, -, -, -, -, g5, -⟩ := hA
  subst hs
  have w0 := w.1
  simp only [mcell] at w0
  have w1 := w.2.1
  have w6 := w.2.2.2.2.2.2.1
  refine ev_of q_X5_sizeOf (Nat.le_of_ble_eq_true rfl) ?_
  refine gs_n 1 a_X5_sizeOf_0 rfl ?_
  refine gs_get 4 a_X5_sizeOf_1 f_5_9 (by first | assumption | exact hs_same _ _ _ | exact (hs_ne _ _ (by first | assumption | decide | omega)).trans (by first | assumption | exact hs_same _ _ _ | exact (hs_ne _ _ (by first | assumption | decide | omega)).trans (by first | assumption | exact hs_same _ _ _ | exact (hs_ne _ _ (by first | assumption | decide | omega)).trans (by first | assumption | exact hs_same _ _ _ | exact (hs_ne _ _ (by first | assumption | decide | omega)).trans (by first | assumption | exact hs_same _ _ _))))) rfl rfl ?_
  refine gs_n 5 a_X5_sizeOf_4 rfl ?_
  refine gs_ia i 6 a_X5_sizeOf_5 (by first | assumption | exact hs_same _ _ _ | exact (hs_ne _ _ (by first | assumption | decide | omega)).trans (by first | assumption | exact hs_same _ _ _ | exact (hs_ne _ _ (by first | assumption | decide | omega)).trans (by first | assumption | exact hs_same _ _ _ | exact (hs_ne _ _ (by first | assumption | decide | omega)).trans (by first | assumption | exact hs_same _ _ _ | exact (hs_ne _ _ (by first | assumption | decide | omega)).trans (by first | assumption | exact hs_same _ _ _))))) rfl (by omega) (by omega) rfl ?_
  rw [g0]
  refine gs_n 7 a_X5_sizeOf_6 rfl ?_
  refine gs_get 10 a_X5_sizeOf_7 f_5_87 (by first | assumption | exact hs_same _ _ _ | exact (hs_ne _ _ (by first | assumption | decide | omega)).trans (by first | assumption | exact hs_same _ _ _ | exact (hs_ne _ _ (by first | assumption | decide | omega)).trans (by first | assumption | exact hs_same _ _ _ | exact (hs_ne _ _ (by first | assumption | decide | omega)).trans (by first | assumption | exact hs_same _ _ _ | exact (hs_ne _ _ (by first | assumption | decide | omega)).trans (by first | assumption | exact hs_same _ _ _))))) rfl rfl ?_
  refine gs_ic 18 13 a_X5_sizeOf_10 rfl rfl (fun c => ?_) (fun c => ?_)
  · have c : ¬ nI (eF e) = nI s.1 := c
    rw [nI_eq (by have := hok.1; omega) (by omega)] at c
    refine gs_k (nI 14) 20 a_X5_sizeOf_18 (by decide +kernel) rfl ?_
    refine gs_n 21 a_X5_sizeOf_20 rfl ?_
    refine gs_get 24 a_X5_sizeOf_21 f_5_25 (by first | assumption | exact hs_same _ _ _ | exact (hs_ne _ _ (by first | assumption | decide | omega)).trans (by first | assumption | exact hs_same _ _ _ | exact (hs_ne _ _ (by first | assumption | decide | omega)).trans (by first | assumption | exact hs_same _ _ _ | exact (hs_ne _ _ (by first | assumption | decide | omega)).trans (by first | assumption | exact hs_same _ _ _ | exact (hs_ne _ _ (by first | assumption | decide | omega)).trans (by first | assumption | exact hs_same _ _ _))))) rfl rfl ?_
    refine gs_n 25 a_X5_sizeOf_24 rfl ?_
    refine gs_ia i 26 a_X5_sizeOf_25 (by first | assumption | exact hs_same _ _ _ | exact (hs_ne _ _ (by first | assumption | decide | omega)).trans (by first | assumption | exact hs_same _ _ _ | exact (hs_ne _ _ (by first | assumption | decide | omega)).trans (by first | assumption | exact hs_same _ _ _ | exact (hs_ne _ _ (by first | assumption | decide | omega)).trans (by first | assumption | exact hs_same _ _ _ | exact (hs_ne _ _ (by first | assumption | decide | omega)).trans (by first | assumption | exact hs_same _ _ _))))) rfl (by omega) (by omega) rfl ?_
    rw [g5]
    refine gs_n 27 a_X5_sizeOf_26 rfl ?_
    refine gs_iret a_X5_sizeOf_27 rfl rfl ?_
    rw [nI_add]
    unfold sz
    rw [if_neg c]
  · have c : nI (eF e) = nI s.1 := Classical.byContradiction c
    rw [nI_eq (by have := hok.1; omega) (by omega)] at c
    refine gs_k (nI 16) 15 a_X5_sizeOf_13 (by decide +kernel) rfl ?_
    refine gs_n 27 a_X5_sizeOf_15 rfl ?_
    refine gs_iret a_X5_sizeOf_27 rfl rfl ?_
    unfold sz
    rw [if_pos c]
theorem szF_le {P f : Nat} {e : En} (h : okM P e) : szF P f e ≤ 54 := by
  unfold szF
  split
  · exact sz_le h
  · omega
theorem sum_b {g : En → Nat} (hl : X.length ≤ 4200) (hg : ∀ e ∈ X, g e ≤ 54) (m j : Nat) : sumOn g ((X.drop m).take j) ≤ 4200 * 54 := by
  have h1 := sumOn_le (g := g) (B := 54) (l := (X.drop m).take j) (fun e he => hg e (List.mem_of_mem_drop (List.mem_of_mem_take he)))
  have h2 : ((X.drop m).take j).length ≤ 4200 := by rw [List.length_take, List.length_drop]; omega
  have := Nat.mul_le_mul_right 54 h2
  omega
theorem l_bytesFrom {a1 a2 a3 : Nat} {a4 : Bool} {a5 a7 a8 a9 a10 a11 a12 : Nat} (f m : Nat) (hf : f ≤ 8) (hP : P ≤ 8) (hE : EA P ar X) (w : MW h (P, a1, a2, a3, a4, a5, X.length, a7, a8, a9, a10, a11, a12) ar) : ∀ (k j : Nat), m + j + k = X.length →
    gs none (d + 1) mD_X5_bytesFrom (5, [(4, .int (nI (m + j))), (3, .int (nI (sumOn (szF P f) ((X.drop m).take j)))), (0, .ref 96), (1, .int (nI f))], [], h) (fun u => u = (some (.int (nI (sumOn (szF P f) (X.drop m)))), h)) := by
  obtain ⟨hl, hk, ha⟩ := hE
  have w0 := w.1
  simp only [mcell] at w0
  have w1 := w.2.1
  intro k
  induction k with
  | zero =>
    intro j hj
    refine gs_n 7 a_X5_bytesFrom_5 rfl ?_
    refine gs_n 8 a_X5_bytesFrom_7 rfl ?_
    refine gs_get 11 a_X5_bytesFrom_8 f_5_106 (by first | assumption | exact hs_same _ _ _ | exact (hs_ne _ _ (by first | assumption | decide | omega)).trans (by first | assumption | exact hs_same _ _ _ | exact (hs_ne _ _ (by first | assumption | decide | omega)).trans (by first | assumption | exact hs_same _ _ _ | exact (hs_ne _ _ (by first | assumption | decide | omega)).trans (by first | assumption | exact hs_same _ _ _ | exact (hs_ne _ _ (by first | assumption | decide | omega)).trans (by first | assumption | exact hs_same _ _ _))))) rfl rfl ?_
    refine gs_ic 44 14 a_X5_bytesFrom_11 rfl rfl (fun c => ?_) (fun c => ?_)
    · refine gs_n 45 a_X5_bytesFrom_44 rfl ?_
      refine gs_iret a_X5_bytesFrom_45 rfl rfl ?_
      rw [List.take_of_length_le (by rw [List.length_drop]; omega)]
    · exact absurd (nI_le (by omega) (by omega)) c
  | succ k ih =>
    intro j hj
    have hmj : m + j < X.length := by omega
    have hA := ha (m + j) hmj
    have g0 := hA.1
    have hok := hk _ (getD_mem hmj)
    have hsum := sum_b (g := szF P f) hl (fun e he => szF_le (hk e he)) m j
    have fin : ∀ t, t = szF P f (X.getD (m + j) en0) → gs none (d + 1) mD_X5_bytesFrom (36, [(4, .int (nI (m + j))), (3, .int (nI (sumOn (szF P f) ((X.drop m).take j)))), (0, .ref 96), (1, .int (nI f))], [.int (nI t), .int (nI (sumOn (szF P f) ((X.drop m).take j)))], h) (fun u => u = (some (.int (nI (sumOn (szF P f) (X.drop m)))), h)) := by
      intro t ht
      refine gs_n 37 a_X5_bytesFrom_36 rfl ?_
      refine gs_n 38 a_X5_bytesFrom_37 rfl ?_
      first | refine gs_inc _ 41 a_X5_bytesFrom_38 rfl (Nat.le_of_ble_eq_true rfl) rfl ?_ | refine gs_n 41 a_X5_bytesFrom_38 rfl ?_
      refine gs_n 5 a_X5_bytesFrom_41 rfl ?_
      refine gs_w [(4, .int (nI (m + j + 1))), (3, .int (nI (sumOn (szF P f) ((X.drop m).take j)) + nI t)), (0, .ref 96), (1, .int (nI f))] (by simp [ix_nd]) (by intro x hx; simp only [List.mem_cons, List.not_mem_nil, or_false] at hx; rcases hx with rfl | rfl | rfl | rfl <;> rfl) ?_
      rw [nI_add, show sumOn (szF P f) ((X.drop m).take j) + t = sumOn (szF P f) ((X.drop m).take (j + 1)) by rw [take_snocE (by rw [List.length_drop]; omega), sumOn_snoc, drop_getD, ht]]
      exact ih (j + 1) (by omega)
    refine gs_n 7 a_X5_bytesFrom_5 rfl ?_
    refine gs_n 8 a_X5_bytesFrom_7 rfl ?_
    refine gs_get 11 a_X5_bytesFrom_8 f_5_106 (by first | assumption | exact hs_same _ _ _ | exact (hs_ne _ _ (by first | assumption | decide | omega)).trans (by first | assumption | exact hs_same _ _ _ | exact (hs_ne _ _ (by first | assumption | decide | omega)).trans (by first | assumption | exact hs_same _ _ _ | exact (hs_ne _ _ (by first | assumption | decide | omega)).trans (by first | assumption | exact hs_same _ _ _ | exact (hs_ne _ _ (by first | assumption | decide | omega)).trans (by first | assumption | exact hs_same _ _ _))))) rfl rfl ?_
    refine gs_ic 44 14 a_X5_bytesFrom_11 rfl rfl (fun c => ?_) (fun c => ?_)
    · exact absurd c (nI_ge (by omega) (by omega))
    · refine gs_n 15 a_X5_bytesFrom_14 rfl ?_
      refine gs_n 16 a_X5_bytesFrom_15 rfl ?_
      refine gs_get 19 a_X5_bytesFrom_16 f_5_9 (by first | assumption | exact hs_same _ _ _ | exact (hs_ne _ _ (by first | assumption | decide | omega)).trans (by first | assumption | exact hs_same _ _ _ | exact (hs_ne _ _ (by first | assumption | decide | omega)).trans (by first | assumption | exact hs_same _ _ _ | exact (hs_ne _ _ (by first | assumption | decide | omega)).trans (by first | assumption | exact hs_same _ _ _ | exact (hs_ne _ _ (by first | assumption | decide | omega)).trans (by first | assumption | exact hs_same _ _ _))))) rfl rfl ?_
      refine gs_n 21 a_X5_bytesFrom_19 rfl ?_
      refine gs_ia (m + j) 22 a_X5_bytesFrom_21 (by first | assumption | exact hs_same _ _ _ | exact (hs_ne _ _ (by first | assumption | decide | omega)).trans (by first | assumption | exact hs_same _ _ _ | exact (hs_ne _ _ (by first | assumption | decide | omega)).trans (by first | assumption | exact hs_same _ _ _ | exact (hs_ne _ _ (by first | assumption | decide | omega)).trans (by first | assumption | exact hs_same _ _ _ | exact (hs_ne _ _ (by first | assumption | decide | omega)).trans (by first | assumption | exact hs_same _ _ _))))) rfl (by omega) (by omega) rfl ?_
      rw [g0]
      refine gs_n 23 a_X5_bytesFrom_22 rfl ?_
      refine gs_ic 35 26 a_X5_bytesFrom_23 rfl rfl (fun c2 => ?_) (fun c2 => ?_)
      · have c2 : ¬ nI (eF (X.getD (m + j) en0)) = nI f := c2
        rw [nI_eq (by have := hok.1; omega) (by omega)] at c2
        refine gs_k (nI 0) 36 a_X5_bytesFrom_35 (by decide +kernel) rfl ?_
        exact fin 0 (by unfold szF; rw [if_neg c2])
      · have c2 : nI (eF (X.getD (m + j) en0)) = nI f := Classical.byContradiction c2
        rw [nI_eq (by have := hok.1; omega) (by omega)] at c2
        refine gs_n 27 a_X5_bytesFrom_26 rfl ?_
        refine gs_n 29 a_X5_bytesFrom_27 rfl ?_
        refine gs_cv 32 a_X5_bytesFrom_29 k_5_121 q_X5_sizeOf (r_sizeOf (m + j) (by omega) hA hok hP w rfl) rfl rfl rfl (by simp [Value.category]) (by first | assumption | exact hs_same _ _ _ | exact (hs_ne _ _ (by first | assumption | decide | omega)).trans (by first | assumption | exact hs_same _ _ _ | exact (hs_ne _ _ (by first | assumption | decide | omega)).trans (by first | assumption | exact hs_same _ _ _ | exact (hs_ne _ _ (by first | assumption | decide | omega)).trans (by first | assumption | exact hs_same _ _ _ | exact (hs_ne _ _ (by first | assumption | decide | omega)).trans (by first | assumption | exact hs_same _ _ _))))) rfl (fun v h1 hp => ?_)
        cases hp
        refine gs_n 36 a_X5_bytesFrom_32 rfl ?_
        exact fin _ (by unfold szF; rw [if_pos c2])
theorem RE.ok (w : RE h P cap tmo clk cl cut X sy torn tE tp an T) : X.length ≤ 4200 ∧ (∀ e ∈ X, okM P e) := by
  obtain ⟨n, ep, tx, bg, ba, ad, lc, de, mq, nx, la, en⟩ := T
  obtain ⟨ar, w, hE, -⟩ := w
  exact ⟨hE.1, hE.2.1⟩
theorem r_bytesFrom (f m : Nat) (hf : f ≤ 8) (hm : m ≤ X.length) (hP : P ≤ 8) (w : RE h P cap tmo clk cl cut X sy torn tE tp an T) : ev (d + 2) n_X5_bytesFrom [.ref 96, .int (nI f), .int (nI m)] h (fun u => u = (some (.int (nI (sumOn (szF P f) (X.drop m)))), h)) := by
  obtain ⟨n, ep, tx, bg, ba, ad, lc, de, mq, nx, la, en⟩ := T
  obtain ⟨ar, w, hE, -⟩ := w
  refine ev_of q_X5_bytesFrom (Nat.le_of_ble_eq_true rfl) ?_
  refine gs_k (nI 0) 1 a_X5_bytesFrom_0 (by decide +kernel) rfl ?_
  refine gs_n 2 a_X5_bytesFrom_1 rfl ?_
  refine gs_n 3 a_X5_bytesFrom_2 rfl ?_
  refine gs_n 5 a_X5_bytesFrom_3 rfl ?_
  refine gs_w [(4, .int (nI (m + 0))), (3, .int (nI (sumOn (szF P f) ((X.drop m).take 0)))), (0, .ref 96), (1, .int (nI f))] (by simp [ix_nd]) (by intro x hx; simp only [List.mem_cons, List.not_mem_nil, or_false] at hx; rcases hx with rfl | rfl | rfl | rfl <;> rfl) ?_
  exact l_bytesFrom f m hf hP hE w (X.length - m) 0 (by omega)
theorem l_unsynced {a1 a2 a3 : Nat} {a4 : Bool} {a5 a8 a9 a10 a11 a12 : Nat} (hP : P ≤ 8) (hE : EA P ar X) (w : MW h (P, a1, a2, a3, a4, a5, X.length, sy, a8, a9, a10, a11, a12) ar) : ∀ (k j : Nat), sy + j + k = X.length →
    gs none (d + 1) mD_X5_unsynced (7, [(2, .int (nI (sy + j))), (1, .int (nI (sumOn (sz P) ((X.drop sy).take j)))), (0, .ref 96)], [], h) (fun u => u = (some (.int (nI (sumOn (sz P) (X.drop sy)))), h)) := by
  obtain ⟨hl, hk, ha⟩ := hE
  have w0 := w.1
  simp only [mcell] at w0
  intro k
  induction k with
  | zero =>
    intro j hj
    refine gs_n 8 a_X5_unsynced_7 rfl ?_
    refine gs_n 9 a_X5_unsynced_8 rfl ?_
    refine gs_get 12 a_X5_unsynced_9 f_5_106 (by first | assumption | exact hs_same _ _ _ | exact (hs_ne _ _ (by first | assumption | decide | omega)).trans (by first | assumption | exact hs_same _ _ _ | exact (hs_ne _ _ (by first | assumption | decide | omega)).trans (by first | assumption | exact hs_same _ _ _ | exact (hs_ne _ _ (by first | assumption | decide | omega)).trans (by first | assumption | exact hs_same _ _ _ | exact (hs_ne _ _ (by first | assumption | decide | omega)).trans (by first | assumption | exact hs_same _ _ _))))) rfl rfl ?_
    refine gs_ic 29 15 a_X5_unsynced_12 rfl rfl (fun c => ?_) (fun c => ?_)
    · refine gs_n 30 a_X5_unsynced_29 rfl ?_
      refine gs_iret a_X5_unsynced_30 rfl rfl ?_
      rw [List.take_of_length_le (by rw [List.length_drop]; omega)]
    · exact absurd (nI_le (by omega) (by omega)) c
  | succ k ih =>
    intro j hj
    have hmj : sy + j < X.length := by omega
    have hA := ha (sy + j) hmj
    have hok := hk _ (getD_mem hmj)
    refine gs_n 8 a_X5_unsynced_7 rfl ?_
    refine gs_n 9 a_X5_unsynced_8 rfl ?_
    refine gs_get 12 a_X5_unsynced_9 f_5_106 (by first | assumption | exact hs_same _ _ _ | exact (hs_ne _ _ (by first | assumption | decide | omega)).trans (by first | assumption | exact hs_same _ _ _ | exact (hs_ne _ _ (by first | assumption | decide | omega)).trans (by first | assumption | exact hs_same _ _ _ | exact (hs_ne _ _ (by first | assumption | decide | omega)).trans (by first | assumption | exact hs_same _ _ _ | exact (hs_ne _ _ (by first | assumption | decide | omega)).trans (by first | assumption | exact hs_same _ _ _))))) rfl rfl ?_
    refine gs_ic 29 15 a_X5_unsynced_12 rfl rfl (fun c => ?_) (fun c => ?_)
    · exact absurd c (nI_ge (by omega) (by omega))
    · refine gs_n 16 a_X5_unsynced_15 rfl ?_
      refine gs_n 17 a_X5_unsynced_16 rfl ?_
      refine gs_n 18 a_X5_unsynced_17 rfl ?_
      refine gs_cv 21 a_X5_unsynced_18 k_5_121 q_X5_sizeOf (r_sizeOf (sy + j) (by omega) hA hok hP w rfl) rfl rfl rfl (by simp [Value.category]) (by first | assumption | exact hs_same _ _ _ | exact (hs_ne _ _ (by first | assumption | decide | omega)).trans (by first | assumption | exact hs_same _ _ _ | exact (hs_ne _ _ (by first | assumption | decide | omega)).trans (by first | assumption | exact hs_same _ _ _ | exact (hs_ne _ _ (by first | assumption | decide | omega)).trans (by first | assumption | exact hs_same _ _ _ | exact (hs_ne _ _ (by first | assumption | decide | omega)).trans (by first | assumption | exact hs_same _ _ _))))) rfl (fun v h1 hp => ?_)
      cases hp
      refine gs_n 22 a_X5_unsynced_21 rfl ?_
      refine gs_n 23 a_X5_unsynced_22 rfl ?_
      first | refine gs_inc _ 26 a_X5_unsynced_23 rfl (Nat.le_of_ble_eq_true rfl) rfl ?_ | refine gs_n 26 a_X5_unsynced_23 rfl ?_
      refine gs_n 7 a_X5_unsynced_26 rfl ?_
      refine gs_w [(2, .int (nI (sy + j + 1))), (1, .int (nI (sumOn (sz P) ((X.drop sy).take j)) + nI (sz P (X.getD (sy + j) en0)))), (0, .ref 96)] (by simp [ix_nd]) (by intro x hx; simp only [List.mem_cons, List.not_mem_nil, or_false] at hx; rcases hx with rfl | rfl | rfl <;> rfl) ?_
      rw [nI_add, show sumOn (sz P) ((X.drop sy).take j) + sz P (X.getD (sy + j) en0) = sumOn (sz P) ((X.drop sy).take (j + 1)) by rw [take_snocE (by rw [List.length_drop]; omega), sumOn_snoc, drop_getD]]
      exact ih (j + 1) (by omega)
theorem r_unsynced (hsy : sy ≤ X.length) (hP : P ≤ 8) (w : RE h P cap tmo clk cl cut X sy torn tE tp an T) : ev (d + 2) n_X5_unsynced [.ref 96] h (fun u => u = (some (.int (nI (sumOn (sz P) (X.drop sy)))), h)) := by
  obtain ⟨n, ep, tx, bg, ba, ad, lc, de, mq, nx, la, en⟩ := T
  obtain ⟨ar, w, hE, -⟩ := w
  have w0 := w.1
  simp only [mcell] at w0
  refine ev_of q_X5_unsynced (Nat.le_of_ble_eq_true rfl) ?_
  refine gs_k (nI 0) 1 a_X5_unsynced_0 (by decide +kernel) rfl ?_
  refine gs_n 2 a_X5_unsynced_1 rfl ?_
  refine gs_n 3 a_X5_unsynced_2 rfl ?_
  refine gs_get 6 a_X5_unsynced_3 f_5_109 (by first | assumption | exact hs_same _ _ _ | exact (hs_ne _ _ (by first | assumption | decide | omega)).trans (by first | assumption | exact hs_same _ _ _ | exact (hs_ne _ _ (by first | assumption | decide | omega)).trans (by first | assumption | exact hs_same _ _ _ | exact (hs_ne _ _ (by first | assumption | decide | omega)).trans (by first | assumption | exact hs_same _ _ _ | exact (hs_ne _ _ (by first | assumption | decide | omega)).trans (by first | assumption | exact hs_same _ _ _))))) rfl rfl ?_
  refine gs_n 7 a_X5_unsynced_6 rfl ?_
  refine gs_w [(2, .int (nI (sy + 0))), (1, .int (nI (sumOn (sz P) ((X.drop sy).take 0)))), (0, .ref 96)] (by simp [ix_nd]) (by intro x hx; simp only [List.mem_cons, List.not_mem_nil, or_false] at hx; rcases hx with rfl | rfl | rfl <;> rfl) ?_
  exact l_unsynced hP hE w (X.length - sy) 0 (by omega)
def oR (ar : Nat → Nat → Int32) (k : Nat) : Bool := !decide (ar 10 k = -1)
theorem l_opened (w : MW h s ar) : ∀ (k j : Nat), j + k = 32 →
    gs none d mD_X5_opened (4, [(2, .int (nI j)), (1, .int (nI (cnt (oR ar) j))), (0, .ref 96)], [], h) (fun u => u = (some (.int (nI (cnt (oR ar) 32))), h)) := by
  have w0 := w.1
  simp only [mcell] at w0
  have w11 := w.2.2.2.2.2.2.2.2.2.2.2.1
  intro k
  induction k with
  | zero =>
    intro j hj
    obtain rfl : j = 32 := by omega
    refine gs_n 5 a_X5_opened_4 rfl ?_
    refine gs_k (nI 32) 7 a_X5_opened_5 (by decide +kernel) rfl ?_
    refine gs_ic 34 10 a_X5_opened_7 rfl rfl (fun c => ?_) (fun c => ?_)
    · refine gs_n 35 a_X5_opened_34 rfl ?_
      refine gs_iret a_X5_opened_35 rfl rfl ?_
      rfl
    · exact absurd (nI_le (Nat.le_refl 32) (by omega)) c
  | succ k ih =>
    intro j hj
    have hcl := cnt_le (oR ar) j
    have fin : ∀ t, t = (if oR ar j then 1 else 0) → gs none d mD_X5_opened (26, [(2, .int (nI j)), (1, .int (nI (cnt (oR ar) j))), (0, .ref 96)], [.int (nI t), .int (nI (cnt (oR ar) j))], h) (fun u => u = (some (.int (nI (cnt (oR ar) 32))), h)) := by
      intro t ht
      refine gs_n 27 a_X5_opened_26 rfl ?_
      refine gs_n 28 a_X5_opened_27 rfl ?_
      first | refine gs_inc _ 31 a_X5_opened_28 rfl (Nat.le_of_ble_eq_true rfl) rfl ?_ | refine gs_n 31 a_X5_opened_28 rfl ?_
      refine gs_n 4 a_X5_opened_31 rfl ?_
      refine gs_w [(2, .int (nI (j + 1))), (1, .int (nI (cnt (oR ar) j) + nI t)), (0, .ref 96)] (by simp [ix_nd]) (by intro x hx; simp only [List.mem_cons, List.not_mem_nil, or_false] at hx; rcases hx with rfl | rfl | rfl <;> rfl) ?_
      rw [nI_add, show cnt (oR ar) j + t = cnt (oR ar) (j + 1) by simp only [cnt, ht]]
      exact ih (j + 1) (by omega)
    refine gs_n 5 a_X5_opened_4 rfl ?_
    refine gs_k (nI 32) 7 a_X5_opened_5 (by decide +kernel) rfl ?_
    refine gs_ic 34 10 a_X5_opened_7 rfl rfl (fun c => ?_) (fun c => ?_)
    · exact absurd c (nI_ge (by omega) (by omega))
    · refine gs_n 11 a_X5_opened_10 rfl ?_
      refine gs_n 12 a_X5_opened_11 rfl ?_
      refine gs_get 15 a_X5_opened_12 f_5_43 (by first | assumption | exact hs_same _ _ _ | exact (hs_ne _ _ (by first | assumption | decide | omega)).trans (by first | assumption | exact hs_same _ _ _ | exact (hs_ne _ _ (by first | assumption | decide | omega)).trans (by first | assumption | exact hs_same _ _ _ | exact (hs_ne _ _ (by first | assumption | decide | omega)).trans (by first | assumption | exact hs_same _ _ _ | exact (hs_ne _ _ (by first | assumption | decide | omega)).trans (by first | assumption | exact hs_same _ _ _))))) rfl rfl ?_
      refine gs_n 16 a_X5_opened_15 rfl ?_
      refine gs_ia j 17 a_X5_opened_16 (by first | assumption | exact hs_same _ _ _ | exact (hs_ne _ _ (by first | assumption | decide | omega)).trans (by first | assumption | exact hs_same _ _ _ | exact (hs_ne _ _ (by first | assumption | decide | omega)).trans (by first | assumption | exact hs_same _ _ _ | exact (hs_ne _ _ (by first | assumption | decide | omega)).trans (by first | assumption | exact hs_same _ _ _ | exact (hs_ne _ _ (by first | assumption | decide | omega)).trans (by first | assumption | exact hs_same _ _ _))))) rfl (by omega) (by omega) rfl ?_
      refine gs_k (-1) 18 a_X5_opened_17 (by decide +kernel) rfl ?_
      refine gs_ic 25 21 a_X5_opened_18 rfl rfl (fun c2 => ?_) (fun c2 => ?_)
      · have c2 : ¬ ar 10 j = -1 := c2
        refine gs_k (nI 1) 26 a_X5_opened_25 (by decide +kernel) rfl ?_
        exact fin 1 (by simp [oR, c2])
      · have c2 : ar 10 j = -1 := Classical.byContradiction c2
        refine gs_k (nI 0) 22 a_X5_opened_21 (by decide +kernel) rfl ?_
        refine gs_n 26 a_X5_opened_22 rfl ?_
        exact fin 0 (by simp [oR, c2])
theorem r_opened (hb : ∀ k, k < 32 → T.2.2.1 k ≤ 1000) (w : RE h P cap tmo clk cl cut X sy torn tE tp an T) : ev (d + 1) n_X5_opened [.ref 96] h (fun u => u = (some (.int (nI (cntO T))), h)) := by
  obtain ⟨n, ep, tx, bg, ba, ad, lc, de, mq, nx, la, en⟩ := T
  obtain ⟨ar, w, hE, -, hT, -⟩ := w
  have : cntO (n, ep, tx, bg, ba, ad, lc, de, mq, nx, la, en) = cnt (oR ar) 32 := by
    unfold cntO
    refine cnt_same (fun k hk => ?_)
    unfold oR
    rw [(hT.1 k hk).2.2.1]
    congr 1
    exact decide_eq_decide.mpr (m1_no (Nat.lt_of_le_of_lt (hb k hk) (by decide))).symm
  rw [this]
  refine ev_of q_X5_opened (Nat.le_of_ble_eq_true rfl) ?_
  refine gs_k (nI 0) 1 a_X5_opened_0 (by decide +kernel) rfl ?_
  refine gs_n 2 a_X5_opened_1 rfl ?_
  refine gs_k (nI 0) 3 a_X5_opened_2 (by decide +kernel) rfl ?_
  refine gs_n 4 a_X5_opened_3 rfl ?_
  refine gs_w [(2, .int (nI 0)), (1, .int (nI (cnt (oR ar) 0))), (0, .ref 96)] (by simp [ix_nd]) (by intro x hx; simp only [List.mem_cons, List.not_mem_nil, or_false] at hx; rcases hx with rfl | rfl | rfl <;> rfl) ?_
  exact l_opened w 32 0 (by omega)
def oRA (ar : Nat → Nat → Int32) (p k : Nat) : Bool := !decide (ar 10 k = -1) && hasB (ar 12 k) p
theorem l_openedAt (p : Nat) (w : MW h s ar) : ∀ (k j : Nat), j + k = 32 →
    gs none d mD_X5_openedAt (4, [(3, .int (nI j)), (2, .int (nI (cnt (oRA ar p) j))), (0, .ref 96), (1, .int (nI p))], [], h) (fun u => u = (some (.int (nI (cnt (oRA ar p) 32))), h)) := by
  have w0 := w.1
  simp only [mcell] at w0
  have w11 := w.2.2.2.2.2.2.2.2.2.2.2.1
  have w13 := w.2.2.2.2.2.2.2.2.2.2.2.2.2.1
  intro k
  induction k with
  | zero =>
    intro j hj
    obtain rfl : j = 32 := by omega
    refine gs_n 5 a_X5_openedAt_4 rfl ?_
    refine gs_k (nI 32) 7 a_X5_openedAt_5 (by decide +kernel) rfl ?_
    refine gs_ic 48 10 a_X5_openedAt_7 rfl rfl (fun c => ?_) (fun c => ?_)
    · refine gs_n 49 a_X5_openedAt_48 rfl ?_
      refine gs_iret a_X5_openedAt_49 rfl rfl ?_
      rfl
    · exact absurd (nI_le (Nat.le_refl 32) (by omega)) c
  | succ k ih =>
    intro j hj
    have hcl := cnt_le (oRA ar p) j
    have fin : ∀ t, t = (if oRA ar p j then 1 else 0) → gs none d mD_X5_openedAt (40, [(3, .int (nI j)), (2, .int (nI (cnt (oRA ar p) j))), (0, .ref 96), (1, .int (nI p))], [.int (nI t), .int (nI (cnt (oRA ar p) j))], h) (fun u => u = (some (.int (nI (cnt (oRA ar p) 32))), h)) := by
      intro t ht
      refine gs_n 41 a_X5_openedAt_40 rfl ?_
      refine gs_n 42 a_X5_openedAt_41 rfl ?_
      first | refine gs_inc _ 45 a_X5_openedAt_42 rfl (Nat.le_of_ble_eq_true rfl) rfl ?_ | refine gs_n 45 a_X5_openedAt_42 rfl ?_
      refine gs_n 4 a_X5_openedAt_45 rfl ?_
      refine gs_w [(3, .int (nI (j + 1))), (2, .int (nI (cnt (oRA ar p) j) + nI t)), (0, .ref 96), (1, .int (nI p))] (by simp [ix_nd]) (by intro x hx; simp only [List.mem_cons, List.not_mem_nil, or_false] at hx; rcases hx with rfl | rfl | rfl | rfl <;> rfl) ?_
      rw [nI_add, show cnt (oRA ar p) j + t = cnt (oRA ar p) (j + 1) by simp only [cnt, ht]]
      exact ih (j + 1) (by omega)
    refine gs_n 5 a_X5_openedAt_4 rfl ?_
    refine gs_k (nI 32) 7 a_X5_openedAt_5 (by decide +kernel) rfl ?_
    refine gs_ic 48 10 a_X5_openedAt_7 rfl rfl (fun c => ?_) (fun c => ?_)
    · exact absurd c (nI_ge (by omega) (by omega))
    · refine gs_n 11 a_X5_openedAt_10 rfl ?_
      refine gs_n 12 a_X5_openedAt_11 rfl ?_
      refine gs_get 15 a_X5_openedAt_12 f_5_43 (by first | assumption | exact hs_same _ _ _ | exact (hs_ne _ _ (by first | assumption | decide | omega)).trans (by first | assumption | exact hs_same _ _ _ | exact (hs_ne _ _ (by first | assumption | decide | omega)).trans (by first | assumption | exact hs_same _ _ _ | exact (hs_ne _ _ (by first | assumption | decide | omega)).trans (by first | assumption | exact hs_same _ _ _ | exact (hs_ne _ _ (by first | assumption | decide | omega)).trans (by first | assumption | exact hs_same _ _ _))))) rfl rfl ?_
      refine gs_n 16 a_X5_openedAt_15 rfl ?_
      refine gs_ia j 17 a_X5_openedAt_16 (by first | assumption | exact hs_same _ _ _ | exact (hs_ne _ _ (by first | assumption | decide | omega)).trans (by first | assumption | exact hs_same _ _ _ | exact (hs_ne _ _ (by first | assumption | decide | omega)).trans (by first | assumption | exact hs_same _ _ _ | exact (hs_ne _ _ (by first | assumption | decide | omega)).trans (by first | assumption | exact hs_same _ _ _ | exact (hs_ne _ _ (by first | assumption | decide | omega)).trans (by first | assumption | exact hs_same _ _ _))))) rfl (by omega) (by omega) rfl ?_
      refine gs_k (-1) 18 a_X5_openedAt_17 (by decide +kernel) rfl ?_
      refine gs_ic 39 21 a_X5_openedAt_18 rfl rfl (fun c2 => ?_) (fun c2 => ?_)
      · have c2 : ar 10 j = -1 := c2
        refine gs_k (nI 0) 40 a_X5_openedAt_39 (by decide +kernel) rfl ?_
        exact fin 0 (by simp [oRA, c2])
      · have c2 : ¬ ar 10 j = -1 := c2
        refine gs_n 22 a_X5_openedAt_21 rfl ?_
        refine gs_get 25 a_X5_openedAt_22 f_5_49 (by first | assumption | exact hs_same _ _ _ | exact (hs_ne _ _ (by first | assumption | decide | omega)).trans (by first | assumption | exact hs_same _ _ _ | exact (hs_ne _ _ (by first | assumption | decide | omega)).trans (by first | assumption | exact hs_same _ _ _ | exact (hs_ne _ _ (by first | assumption | decide | omega)).trans (by first | assumption | exact hs_same _ _ _ | exact (hs_ne _ _ (by first | assumption | decide | omega)).trans (by first | assumption | exact hs_same _ _ _))))) rfl rfl ?_
        refine gs_n 26 a_X5_openedAt_25 rfl ?_
        refine gs_ia j 27 a_X5_openedAt_26 (by first | assumption | exact hs_same _ _ _ | exact (hs_ne _ _ (by first | assumption | decide | omega)).trans (by first | assumption | exact hs_same _ _ _ | exact (hs_ne _ _ (by first | assumption | decide | omega)).trans (by first | assumption | exact hs_same _ _ _ | exact (hs_ne _ _ (by first | assumption | decide | omega)).trans (by first | assumption | exact hs_same _ _ _ | exact (hs_ne _ _ (by first | assumption | decide | omega)).trans (by first | assumption | exact hs_same _ _ _))))) rfl (by omega) (by omega) rfl ?_
        refine gs_n 28 a_X5_openedAt_27 rfl ?_
        refine gs_n 29 a_X5_openedAt_28 rfl ?_
        refine gs_k (nI 1) 30 a_X5_openedAt_29 (by decide +kernel) rfl ?_
        refine gs_n 31 a_X5_openedAt_30 rfl ?_
        refine gs_k (nI 1) 32 a_X5_openedAt_31 (by decide +kernel) rfl ?_
        refine gs_ic 39 35 a_X5_openedAt_32 rfl rfl (fun c3 => ?_) (fun c3 => ?_)
        · have c3 : ¬ ((ar 12 j >>> (nI p &&& 31)) &&& nI 1 = nI 1) := c3
          refine gs_k (nI 0) 40 a_X5_openedAt_39 (by decide +kernel) rfl ?_
          exact fin 0 (by simp [oRA, hasB, c3])
        · have c3 : ((ar 12 j >>> (nI p &&& 31)) &&& nI 1 = nI 1) := Classical.byContradiction c3
          refine gs_k (nI 1) 36 a_X5_openedAt_35 (by decide +kernel) rfl ?_
          refine gs_n 40 a_X5_openedAt_36 rfl ?_
          exact fin 1 (by simp [oRA, hasB, c2, c3])
theorem r_openedAt (p : Nat) (hp : p < 8) (hb : ∀ k, k < 32 → T.2.2.1 k ≤ 1000 ∧ (T.2.2.1 k = 0 → T.2.2.2.2.2.1 k = nI 0)) (w : RE h P cap tmo clk cl cut X sy torn tE tp an T) : ev (d + 1) n_X5_openedAt [.ref 96, .int (nI p)] h (fun u => u = (some (.int (nI (cntA T p))), h)) := by
  obtain ⟨n, ep, tx, bg, ba, ad, lc, de, mq, nx, la, en⟩ := T
  obtain ⟨ar, w, hE, -, hT, -⟩ := w
  have : cntA (n, ep, tx, bg, ba, ad, lc, de, mq, nx, la, en) p = cnt (oRA ar p) 32 := by
    unfold cntA
    refine cnt_same (fun k hk => ?_)
    obtain ⟨t1, t2, t3, t4, t5⟩ := hT.1 k hk
    obtain ⟨b1, b2⟩ := hb k hk
    simp only at b1 b2
    show hasB (ad k) p = (!decide (ar 10 k = -1) && hasB (ar 12 k) p)
    rw [t3, t5]
    by_cases z : tx k = 0
    · rw [b2 z, hasB_0 hp]
      simp
    · rw [decide_eq_false (fun q => z ((m1_no (by omega)).mp q))]
      rfl
  rw [this]
  refine ev_of q_X5_openedAt (Nat.le_of_ble_eq_true rfl) ?_
  refine gs_k (nI 0) 1 a_X5_openedAt_0 (by decide +kernel) rfl ?_
  refine gs_n 2 a_X5_openedAt_1 rfl ?_
  refine gs_k (nI 0) 3 a_X5_openedAt_2 (by decide +kernel) rfl ?_
  refine gs_n 4 a_X5_openedAt_3 rfl ?_
  refine gs_w [(3, .int (nI 0)), (2, .int (nI (cnt (oRA ar p) 0))), (0, .ref 96), (1, .int (nI p))] (by simp [ix_nd]) (by intro x hx; simp only [List.mem_cons, List.not_mem_nil, or_false] at hx; rcases hx with rfl | rfl | rfl | rfl <;> rfl) ?_
  exact l_openedAt p w 32 0 (by omega)
theorem m_add (f K k E a b : Int32) {a1 a2 a3 : Nat} {a4 : Bool} {a5 a7 a8 a9 a10 a11 a12 a0 m : Nat} (hm : m < 4200) (w : MW h (a0, a1, a2, a3, a4, a5, m, a7, a8, a9, a10, a11, a12) ar) : ev (d + 1) n_X5_add [.ref 96, .int f, .int K, .int k, .int E, .int a, .int b] h (fun u => u.1 = some (.int (nI m)) ∧ FS cM h u.2 ∧ MW u.2 (a0, a1, a2, a3, a4, a5, m + 1, a7, a8, a9, a10, a11, a12) (addA ar m f K k E a b)) := by
  have wd := ((((((((w.obj (a0, a1, a2, a3, a4, a5, m + 1, a7, a8, a9, a10, a11, a12)).s0 (upd (ar 0) m f)).s1 (upd (ar 1) m K)).s2 (upd (ar 2) m k)).s3 (upd (ar 3) m E)).s4 (upd (ar 4) m a)).s5 (upd (ar 5) m b)).s6 (upd (ar 6) m (-1)))
  obtain ⟨w0, w1, w2, w3, w4, w5, w6, w7, -⟩ := w
  simp only [mcell] at w0
  refine ev_of q_X5_add (Nat.le_of_ble_eq_true rfl) ?_
  refine gs_n 1 a_X5_add_0 rfl ?_
  refine gs_get 4 a_X5_add_1 f_5_106 (by first | assumption | exact hs_same _ _ _ | exact (hs_ne _ _ (by first | assumption | decide | omega)).trans (by first | assumption | exact hs_same _ _ _ | exact (hs_ne _ _ (by first | assumption | decide | omega)).trans (by first | assumption | exact hs_same _ _ _ | exact (hs_ne _ _ (by first | assumption | decide | omega)).trans (by first | assumption | exact hs_same _ _ _ | exact (hs_ne _ _ (by first | assumption | decide | omega)).trans (by first | assumption | exact hs_same _ _ _ | exact (hs_ne _ _ (by first | assumption | decide | omega)).trans (by first | assumption | exact hs_same _ _ _ | exact (hs_ne _ _ (by first | assumption | decide | omega)).trans (by first | assumption | exact hs_same _ _ _ | exact (hs_ne _ _ (by first | assumption | decide | omega)).trans (by first | assumption | exact hs_same _ _ _ | exact (hs_ne _ _ (by first | assumption | decide | omega)).trans (by first | assumption | exact hs_same _ _ _ | exact (hs_ne _ _ (by first | assumption | decide | omega)).trans (by first | assumption | exact hs_same _ _ _)))))))))) rfl rfl ?_
  refine gs_n 6 a_X5_add_4 rfl ?_
  refine gs_n 7 a_X5_add_6 rfl ?_
  refine gs_n 8 a_X5_add_7 rfl ?_
  refine gs_get 11 a_X5_add_8 f_5_106 (by first | assumption | exact hs_same _ _ _ | exact (hs_ne _ _ (by first | assumption | decide | omega)).trans (by first | assumption | exact hs_same _ _ _ | exact (hs_ne _ _ (by first | assumption | decide | omega)).trans (by first | assumption | exact hs_same _ _ _ | exact (hs_ne _ _ (by first | assumption | decide | omega)).trans (by first | assumption | exact hs_same _ _ _ | exact (hs_ne _ _ (by first | assumption | decide | omega)).trans (by first | assumption | exact hs_same _ _ _ | exact (hs_ne _ _ (by first | assumption | decide | omega)).trans (by first | assumption | exact hs_same _ _ _ | exact (hs_ne _ _ (by first | assumption | decide | omega)).trans (by first | assumption | exact hs_same _ _ _ | exact (hs_ne _ _ (by first | assumption | decide | omega)).trans (by first | assumption | exact hs_same _ _ _ | exact (hs_ne _ _ (by first | assumption | decide | omega)).trans (by first | assumption | exact hs_same _ _ _ | exact (hs_ne _ _ (by first | assumption | decide | omega)).trans (by first | assumption | exact hs_same _ _ _)))))))))) rfl rfl ?_
  refine gs_k (nI 1) 12 a_X5_add_11 (by decide +kernel) rfl ?_
  refine gs_n 13 a_X5_add_12 rfl ?_
  refine gs_put 16 _ a_X5_add_13 f_5_106 (by first | assumption | exact hs_same _ _ _ | exact (hs_ne _ _ (by first | assumption | decide | omega)).trans (by first | assumption | exact hs_same _ _ _ | exact (hs_ne _ _ (by first | assumption | decide | omega)).trans (by first | assumption | exact hs_same _ _ _ | exact (hs_ne _ _ (by first | assumption | decide | omega)).trans (by first | assumption | exact hs_same _ _ _ | exact (hs_ne _ _ (by first | assumption | decide | omega)).trans (by first | assumption | exact hs_same _ _ _ | exact (hs_ne _ _ (by first | assumption | decide | omega)).trans (by first | assumption | exact hs_same _ _ _ | exact (hs_ne _ _ (by first | assumption | decide | omega)).trans (by first | assumption | exact hs_same _ _ _ | exact (hs_ne _ _ (by first | assumption | decide | omega)).trans (by first | assumption | exact hs_same _ _ _ | exact (hs_ne _ _ (by first | assumption | decide | omega)).trans (by first | assumption | exact hs_same _ _ _ | exact (hs_ne _ _ (by first | assumption | decide | omega)).trans (by first | assumption | exact hs_same _ _ _)))))))))) (Nat.le_of_ble_eq_true rfl) rfl (fun z => absurd z (by decide)) rfl rfl ?_
  rw [show nI m + nI 1 = nI (m + 1) from nI_add m 1]
  refine gs_n 17 a_X5_add_16 rfl ?_
  refine gs_get 20 a_X5_add_17 f_5_9 (by first | assumption | exact hs_same _ _ _ | exact (hs_ne _ _ (by first | assumption | decide | omega)).trans (by first | assumption | exact hs_same _ _ _ | exact (hs_ne _ _ (by first | assumption | decide | omega)).trans (by first | assumption | exact hs_same _ _ _ | exact (hs_ne _ _ (by first | assumption | decide | omega)).trans (by first | assumption | exact hs_same _ _ _ | exact (hs_ne _ _ (by first | assumption | decide | omega)).trans (by first | assumption | exact hs_same _ _ _ | exact (hs_ne _ _ (by first | assumption | decide | omega)).trans (by first | assumption | exact hs_same _ _ _ | exact (hs_ne _ _ (by first | assumption | decide | omega)).trans (by first | assumption | exact hs_same _ _ _ | exact (hs_ne _ _ (by first | assumption | decide | omega)).trans (by first | assumption | exact hs_same _ _ _ | exact (hs_ne _ _ (by first | assumption | decide | omega)).trans (by first | assumption | exact hs_same _ _ _ | exact (hs_ne _ _ (by first | assumption | decide | omega)).trans (by first | assumption | exact hs_same _ _ _)))))))))) rfl rfl ?_
  refine gs_n 22 a_X5_add_20 rfl ?_
  refine gs_n 23 a_X5_add_22 rfl ?_
  refine gs_is m 24 a_X5_add_23 (by first | assumption | exact hs_same _ _ _ | exact (hs_ne _ _ (by first | assumption | decide | omega)).trans (by first | assumption | exact hs_same _ _ _ | exact (hs_ne _ _ (by first | assumption | decide | omega)).trans (by first | assumption | exact hs_same _ _ _ | exact (hs_ne _ _ (by first | assumption | decide | omega)).trans (by first | assumption | exact hs_same _ _ _ | exact (hs_ne _ _ (by first | assumption | decide | omega)).trans (by first | assumption | exact hs_same _ _ _ | exact (hs_ne _ _ (by first | assumption | decide | omega)).trans (by first | assumption | exact hs_same _ _ _ | exact (hs_ne _ _ (by first | assumption | decide | omega)).trans (by first | assumption | exact hs_same _ _ _ | exact (hs_ne _ _ (by first | assumption | decide | omega)).trans (by first | assumption | exact hs_same _ _ _ | exact (hs_ne _ _ (by first | assumption | decide | omega)).trans (by first | assumption | exact hs_same _ _ _ | exact (hs_ne _ _ (by first | assumption | decide | omega)).trans (by first | assumption | exact hs_same _ _ _)))))))))) rfl (by omega) (by omega) rfl ?_
  refine gs_n 25 a_X5_add_24 rfl ?_
  refine gs_get 28 a_X5_add_25 f_5_13 (by first | assumption | exact hs_same _ _ _ | exact (hs_ne _ _ (by first | assumption | decide | omega)).trans (by first | assumption | exact hs_same _ _ _ | exact (hs_ne _ _ (by first | assumption | decide | omega)).trans (by first | assumption | exact hs_same _ _ _ | exact (hs_ne _ _ (by first | assumption | decide | omega)).trans (by first | assumption | exact hs_same _ _ _ | exact (hs_ne _ _ (by first | assumption | decide | omega)).trans (by first | assumption | exact hs_same _ _ _ | exact (hs_ne _ _ (by first | assumption | decide | omega)).trans (by first | assumption | exact hs_same _ _ _ | exact (hs_ne _ _ (by first | assumption | decide | omega)).trans (by first | assumption | exact hs_same _ _ _ | exact (hs_ne _ _ (by first | assumption | decide | omega)).trans (by first | assumption | exact hs_same _ _ _ | exact (hs_ne _ _ (by first | assumption | decide | omega)).trans (by first | assumption | exact hs_same _ _ _ | exact (hs_ne _ _ (by first | assumption | decide | omega)).trans (by first | assumption | exact hs_same _ _ _)))))))))) rfl rfl ?_
  refine gs_n 30 a_X5_add_28 rfl ?_
  refine gs_n 31 a_X5_add_30 rfl ?_
  refine gs_is m 32 a_X5_add_31 (by first | assumption | exact hs_same _ _ _ | exact (hs_ne _ _ (by first | assumption | decide | omega)).trans (by first | assumption | exact hs_same _ _ _ | exact (hs_ne _ _ (by first | assumption | decide | omega)).trans (by first | assumption | exact hs_same _ _ _ | exact (hs_ne _ _ (by first | assumption | decide | omega)).trans (by first | assumption | exact hs_same _ _ _ | exact (hs_ne _ _ (by first | assumption | decide | omega)).trans (by first | assumption | exact hs_same _ _ _ | exact (hs_ne _ _ (by first | assumption | decide | omega)).trans (by first | assumption | exact hs_same _ _ _ | exact (hs_ne _ _ (by first | assumption | decide | omega)).trans (by first | assumption | exact hs_same _ _ _ | exact (hs_ne _ _ (by first | assumption | decide | omega)).trans (by first | assumption | exact hs_same _ _ _ | exact (hs_ne _ _ (by first | assumption | decide | omega)).trans (by first | assumption | exact hs_same _ _ _ | exact (hs_ne _ _ (by first | assumption | decide | omega)).trans (by first | assumption | exact hs_same _ _ _)))))))))) rfl (by omega) (by omega) rfl ?_
  refine gs_n 33 a_X5_add_32 rfl ?_
  refine gs_get 36 a_X5_add_33 f_5_16 (by first | assumption | exact hs_same _ _ _ | exact (hs_ne _ _ (by first | assumption | decide | omega)).trans (by first | assumption | exact hs_same _ _ _ | exact (hs_ne _ _ (by first | assumption | decide | omega)).trans (by first | assumption | exact hs_same _ _ _ | exact (hs_ne _ _ (by first | assumption | decide | omega)).trans (by first | assumption | exact hs_same _ _ _ | exact (hs_ne _ _ (by first | assumption | decide | omega)).trans (by first | assumption | exact hs_same _ _ _ | exact (hs_ne _ _ (by first | assumption | decide | omega)).trans (by first | assumption | exact hs_same _ _ _ | exact (hs_ne _ _ (by first | assumption | decide | omega)).trans (by first | assumption | exact hs_same _ _ _ | exact (hs_ne _ _ (by first | assumption | decide | omega)).trans (by first | assumption | exact hs_same _ _ _ | exact (hs_ne _ _ (by first | assumption | decide | omega)).trans (by first | assumption | exact hs_same _ _ _ | exact (hs_ne _ _ (by first | assumption | decide | omega)).trans (by first | assumption | exact hs_same _ _ _)))))))))) rfl rfl ?_
  refine gs_n 38 a_X5_add_36 rfl ?_
  refine gs_n 39 a_X5_add_38 rfl ?_
  refine gs_is m 40 a_X5_add_39 (by first | assumption | exact hs_same _ _ _ | exact (hs_ne _ _ (by first | assumption | decide | omega)).trans (by first | assumption | exact hs_same _ _ _ | exact (hs_ne _ _ (by first | assumption | decide | omega)).trans (by first | assumption | exact hs_same _ _ _ | exact (hs_ne _ _ (by first | assumption | decide | omega)).trans (by first | assumption | exact hs_same _ _ _ | exact (hs_ne _ _ (by first | assumption | decide | omega)).trans (by first | assumption | exact hs_same _ _ _ | exact (hs_ne _ _ (by first | assumption | decide | omega)).trans (by first | assumption | exact hs_same _ _ _ | exact (hs_ne _ _ (by first | assumption | decide | omega)).trans (by first | assumption | exact hs_same _ _ _ | exact (hs_ne _ _ (by first | assumption | decide | omega)).trans (by first | assumption | exact hs_same _ _ _ | exact (hs_ne _ _ (by first | assumption | decide | omega)).trans (by first | assumption | exact hs_same _ _ _ | exact (hs_ne _ _ (by first | assumption | decide | omega)).trans (by first | assumption | exact hs_same _ _ _)))))))))) rfl (by omega) (by omega) rfl ?_
  refine gs_n 41 a_X5_add_40 rfl ?_
  refine gs_get 44 a_X5_add_41 f_5_19 (by first | assumption | exact hs_same _ _ _ | exact (hs_ne _ _ (by first | assumption | decide | omega)).trans (by first | assumption | exact hs_same _ _ _ | exact (hs_ne _ _ (by first | assumption | decide | omega)).trans (by first | assumption | exact hs_same _ _ _ | exact (hs_ne _ _ (by first | assumption | decide | omega)).trans (by first | assumption | exact hs_same _ _ _ | exact (hs_ne _ _ (by first | assumption | decide | omega)).trans (by first | assumption | exact hs_same _ _ _ | exact (hs_ne _ _ (by first | assumption | decide | omega)).trans (by first | assumption | exact hs_same _ _ _ | exact (hs_ne _ _ (by first | assumption | decide | omega)).trans (by first | assumption | exact hs_same _ _ _ | exact (hs_ne _ _ (by first | assumption | decide | omega)).trans (by first | assumption | exact hs_same _ _ _ | exact (hs_ne _ _ (by first | assumption | decide | omega)).trans (by first | assumption | exact hs_same _ _ _ | exact (hs_ne _ _ (by first | assumption | decide | omega)).trans (by first | assumption | exact hs_same _ _ _)))))))))) rfl rfl ?_
  refine gs_n 46 a_X5_add_44 rfl ?_
  refine gs_n 48 a_X5_add_46 rfl ?_
  refine gs_is m 49 a_X5_add_48 (by first | assumption | exact hs_same _ _ _ | exact (hs_ne _ _ (by first | assumption | decide | omega)).trans (by first | assumption | exact hs_same _ _ _ | exact (hs_ne _ _ (by first | assumption | decide | omega)).trans (by first | assumption | exact hs_same _ _ _ | exact (hs_ne _ _ (by first | assumption | decide | omega)).trans (by first | assumption | exact hs_same _ _ _ | exact (hs_ne _ _ (by first | assumption | decide | omega)).trans (by first | assumption | exact hs_same _ _ _ | exact (hs_ne _ _ (by first | assumption | decide | omega)).trans (by first | assumption | exact hs_same _ _ _ | exact (hs_ne _ _ (by first | assumption | decide | omega)).trans (by first | assumption | exact hs_same _ _ _ | exact (hs_ne _ _ (by first | assumption | decide | omega)).trans (by first | assumption | exact hs_same _ _ _ | exact (hs_ne _ _ (by first | assumption | decide | omega)).trans (by first | assumption | exact hs_same _ _ _ | exact (hs_ne _ _ (by first | assumption | decide | omega)).trans (by first | assumption | exact hs_same _ _ _)))))))))) rfl (by omega) (by omega) rfl ?_
  refine gs_n 50 a_X5_add_49 rfl ?_
  refine gs_get 53 a_X5_add_50 f_5_22 (by first | assumption | exact hs_same _ _ _ | exact (hs_ne _ _ (by first | assumption | decide | omega)).trans (by first | assumption | exact hs_same _ _ _ | exact (hs_ne _ _ (by first | assumption | decide | omega)).trans (by first | assumption | exact hs_same _ _ _ | exact (hs_ne _ _ (by first | assumption | decide | omega)).trans (by first | assumption | exact hs_same _ _ _ | exact (hs_ne _ _ (by first | assumption | decide | omega)).trans (by first | assumption | exact hs_same _ _ _ | exact (hs_ne _ _ (by first | assumption | decide | omega)).trans (by first | assumption | exact hs_same _ _ _ | exact (hs_ne _ _ (by first | assumption | decide | omega)).trans (by first | assumption | exact hs_same _ _ _ | exact (hs_ne _ _ (by first | assumption | decide | omega)).trans (by first | assumption | exact hs_same _ _ _ | exact (hs_ne _ _ (by first | assumption | decide | omega)).trans (by first | assumption | exact hs_same _ _ _ | exact (hs_ne _ _ (by first | assumption | decide | omega)).trans (by first | assumption | exact hs_same _ _ _)))))))))) rfl rfl ?_
  refine gs_n 55 a_X5_add_53 rfl ?_
  refine gs_n 57 a_X5_add_55 rfl ?_
  refine gs_is m 58 a_X5_add_57 (by first | assumption | exact hs_same _ _ _ | exact (hs_ne _ _ (by first | assumption | decide | omega)).trans (by first | assumption | exact hs_same _ _ _ | exact (hs_ne _ _ (by first | assumption | decide | omega)).trans (by first | assumption | exact hs_same _ _ _ | exact (hs_ne _ _ (by first | assumption | decide | omega)).trans (by first | assumption | exact hs_same _ _ _ | exact (hs_ne _ _ (by first | assumption | decide | omega)).trans (by first | assumption | exact hs_same _ _ _ | exact (hs_ne _ _ (by first | assumption | decide | omega)).trans (by first | assumption | exact hs_same _ _ _ | exact (hs_ne _ _ (by first | assumption | decide | omega)).trans (by first | assumption | exact hs_same _ _ _ | exact (hs_ne _ _ (by first | assumption | decide | omega)).trans (by first | assumption | exact hs_same _ _ _ | exact (hs_ne _ _ (by first | assumption | decide | omega)).trans (by first | assumption | exact hs_same _ _ _ | exact (hs_ne _ _ (by first | assumption | decide | omega)).trans (by first | assumption | exact hs_same _ _ _)))))))))) rfl (by omega) (by omega) rfl ?_
  refine gs_n 59 a_X5_add_58 rfl ?_
  refine gs_get 62 a_X5_add_59 f_5_25 (by first | assumption | exact hs_same _ _ _ | exact (hs_ne _ _ (by first | assumption | decide | omega)).trans (by first | assumption | exact hs_same _ _ _ | exact (hs_ne _ _ (by first | assumption | decide | omega)).trans (by first | assumption | exact hs_same _ _ _ | exact (hs_ne _ _ (by first | assumption | decide | omega)).trans (by first | assumption | exact hs_same _ _ _ | exact (hs_ne _ _ (by first | assumption | decide | omega)).trans (by first | assumption | exact hs_same _ _ _ | exact (hs_ne _ _ (by first | assumption | decide | omega)).trans (by first | assumption | exact hs_same _ _ _ | exact (hs_ne _ _ (by first | assumption | decide | omega)).trans (by first | assumption | exact hs_same _ _ _ | exact (hs_ne _ _ (by first | assumption | decide | omega)).trans (by first | assumption | exact hs_same _ _ _ | exact (hs_ne _ _ (by first | assumption | decide | omega)).trans (by first | assumption | exact hs_same _ _ _ | exact (hs_ne _ _ (by first | assumption | decide | omega)).trans (by first | assumption | exact hs_same _ _ _)))))))))) rfl rfl ?_
  refine gs_n 64 a_X5_add_62 rfl ?_
  refine gs_n 66 a_X5_add_64 rfl ?_
  refine gs_is m 67 a_X5_add_66 (by first | assumption | exact hs_same _ _ _ | exact (hs_ne _ _ (by first | assumption | decide | omega)).trans (by first | assumption | exact hs_same _ _ _ | exact (hs_ne _ _ (by first | assumption | decide | omega)).trans (by first | assumption | exact hs_same _ _ _ | exact (hs_ne _ _ (by first | assumption | decide | omega)).trans (by first | assumption | exact hs_same _ _ _ | exact (hs_ne _ _ (by first | assumption | decide | omega)).trans (by first | assumption | exact hs_same _ _ _ | exact (hs_ne _ _ (by first | assumption | decide | omega)).trans (by first | assumption | exact hs_same _ _ _ | exact (hs_ne _ _ (by first | assumption | decide | omega)).trans (by first | assumption | exact hs_same _ _ _ | exact (hs_ne _ _ (by first | assumption | decide | omega)).trans (by first | assumption | exact hs_same _ _ _ | exact (hs_ne _ _ (by first | assumption | decide | omega)).trans (by first | assumption | exact hs_same _ _ _ | exact (hs_ne _ _ (by first | assumption | decide | omega)).trans (by first | assumption | exact hs_same _ _ _)))))))))) rfl (by omega) (by omega) rfl ?_
  refine gs_n 68 a_X5_add_67 rfl ?_
  refine gs_get 71 a_X5_add_68 f_5_28 (by first | assumption | exact hs_same _ _ _ | exact (hs_ne _ _ (by first | assumption | decide | omega)).trans (by first | assumption | exact hs_same _ _ _ | exact (hs_ne _ _ (by first | assumption | decide | omega)).trans (by first | assumption | exact hs_same _ _ _ | exact (hs_ne _ _ (by first | assumption | decide | omega)).trans (by first | assumption | exact hs_same _ _ _ | exact (hs_ne _ _ (by first | assumption | decide | omega)).trans (by first | assumption | exact hs_same _ _ _ | exact (hs_ne _ _ (by first | assumption | decide | omega)).trans (by first | assumption | exact hs_same _ _ _ | exact (hs_ne _ _ (by first | assumption | decide | omega)).trans (by first | assumption | exact hs_same _ _ _ | exact (hs_ne _ _ (by first | assumption | decide | omega)).trans (by first | assumption | exact hs_same _ _ _ | exact (hs_ne _ _ (by first | assumption | decide | omega)).trans (by first | assumption | exact hs_same _ _ _ | exact (hs_ne _ _ (by first | assumption | decide | omega)).trans (by first | assumption | exact hs_same _ _ _)))))))))) rfl rfl ?_
  refine gs_n 73 a_X5_add_71 rfl ?_
  refine gs_k (-1) 74 a_X5_add_73 (by decide +kernel) rfl ?_
  refine gs_is m 75 a_X5_add_74 (by first | assumption | exact hs_same _ _ _ | exact (hs_ne _ _ (by first | assumption | decide | omega)).trans (by first | assumption | exact hs_same _ _ _ | exact (hs_ne _ _ (by first | assumption | decide | omega)).trans (by first | assumption | exact hs_same _ _ _ | exact (hs_ne _ _ (by first | assumption | decide | omega)).trans (by first | assumption | exact hs_same _ _ _ | exact (hs_ne _ _ (by first | assumption | decide | omega)).trans (by first | assumption | exact hs_same _ _ _ | exact (hs_ne _ _ (by first | assumption | decide | omega)).trans (by first | assumption | exact hs_same _ _ _ | exact (hs_ne _ _ (by first | assumption | decide | omega)).trans (by first | assumption | exact hs_same _ _ _ | exact (hs_ne _ _ (by first | assumption | decide | omega)).trans (by first | assumption | exact hs_same _ _ _ | exact (hs_ne _ _ (by first | assumption | decide | omega)).trans (by first | assumption | exact hs_same _ _ _ | exact (hs_ne _ _ (by first | assumption | decide | omega)).trans (by first | assumption | exact hs_same _ _ _)))))))))) rfl (by omega) (by omega) rfl ?_
  refine gs_n 77 a_X5_add_75 rfl ?_
  refine gs_iret a_X5_add_77 rfl rfl ?_
  refine ⟨rfl, ?_, wd⟩
  exact (((((((FS.m _ (by omega)).trans (FS.m _ (by omega))).trans (FS.m _ (by omega))).trans (FS.m _ (by omega))).trans (FS.m _ (by omega))).trans (FS.m _ (by omega))).trans (FS.m _ (by omega))).trans (FS.m _ (by omega))
/-- an entry without payload comes to the list; what is told stays -/
theorem r_add (f K k E a b : Nat) (hl : X.length < 4200) (hok : okM P (f, K, k, E, a, b, 0, [])) (w : RE h P cap tmo clk cl cut X sy 0 tE tp an T) : ev (d + 1) n_X5_add [.ref 96, .int (nI f), .int (nI K), .int (nI k), .int (nI E), .int (nI a), .int (nI b)] h (fun u => u.1 = some (.int (nI X.length)) ∧ FS cM h u.2 ∧ RE u.2 P cap tmo clk cl cut (X ++ [(f, K, k, E, a, b, 0, [])]) sy 0 tE tp an T) := by
  obtain ⟨n, ep, tx, bg, ba, ad, lc, de, mq, nx, la, en⟩ := T
  obtain ⟨ar, w, hE, -, hT, h18, h19⟩ := w
  refine ev_post (m_add (nI f) (nI K) (nI k) (nI E) (nI a) (nI b) hl w) ?_
  rintro ⟨v, h'⟩ ⟨e1, hF, w'⟩
  refine ⟨e1, hF, addA ar X.length (nI f) (nI K) (nI k) (nI E) (nI a) (nI b), ?_, EA_add hE hl hok, fun z => absurd z (by omega), TR_add hT, ?_, ?_⟩
  · rw [List.length_append]; exact w'
  · intro i hi
    rw [addA_ge (by omega)]
    exact h18 i hi
  · intro i hi
    rw [addA_ge (by omega)]
    exact h19 i hi
end R1
