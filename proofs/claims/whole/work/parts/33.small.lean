/-! OnceLedger: small methods -/
section SM
variable {d : Nat} {h : ix_H} {sc : SC} {lg : Nat → List En} {tn : Nat → List Nat} {bk : List En} {bt : List Nat} {un : List (Nat × Nat)} {pr : Nat → PS} {mk : Nat → Int32} {tp an : List Nat}
theorem gs_bt {S : ix_S} {d : Nat} {q : ix_M} {P : ix_O → Prop} {b : Bool} {f : ix_F} (kt : b = true → gs S d q f P) (kf : b = false → gs S d q f P) : gs S d q f P := by
  cases b
  · exact kf rfl
  · exact kt rfl
theorem b01_ne (b : Bool) : ¬ b01 b = 0 ↔ b = true := by cases b <;> decide +kernel
theorem lit32 : ((32 : Nat) : Int) = 32 := rfl
def isK (x : Int32) : Bool := decide (0 ≤ x.toInt ∧ x.toInt < 32)
theorem e_isKey (x : Int32) : ev (d + 1) n_X4_isKey [.ref 0, .int x] h (fun u => u = (some (.int (b01 (isK x))), h)) := by
  refine ev_of q_X4_isKey (Nat.le_of_ble_eq_true rfl) ?_
  refine gs_n 1 a_X4_isKey_0 rfl ?_
  refine gs_if 14 4 a_X4_isKey_1 rfl rfl (fun c => ?_) (fun c => ?_)
  · have c : x < 0 := c
    rw [lt0_iff] at c
    refine gs_k (nI 0) 15 a_X4_isKey_14 (by decide +kernel) rfl ?_
    refine gs_iret a_X4_isKey_15 rfl rfl ?_
    simp [b01, isK, show ¬ (0 ≤ x.toInt) by omega]
  · have c : ¬ x < 0 := c
    rw [lt0_iff] at c
    refine gs_n 5 a_X4_isKey_4 rfl ?_
    refine gs_k (nI 32) 7 a_X4_isKey_5 (by decide +kernel) rfl ?_
    refine gs_ic 14 10 a_X4_isKey_7 rfl rfl (fun c2 => ?_) (fun c2 => ?_)
    · have c2 : nI 32 ≤ x := c2
      rw [ix_le_nI (by omega)] at c2
      refine gs_k (nI 0) 15 a_X4_isKey_14 (by decide +kernel) rfl ?_
      refine gs_iret a_X4_isKey_15 rfl rfl ?_
      simp [b01, isK, show ¬ (x.toInt < 32) by omega]
    · have c2 : ¬ nI 32 ≤ x := c2
      rw [ix_le_nI (by omega)] at c2
      refine gs_k (nI 1) 11 a_X4_isKey_10 (by decide +kernel) rfl ?_
      refine gs_n 15 a_X4_isKey_11 rfl ?_
      refine gs_iret a_X4_isKey_15 rfl rfl ?_
      simp [b01, isK, show 0 ≤ x.toInt by omega, show x.toInt < 32 by omega]
theorem isK_nat {x : Int32} (hx : isK x = true) : ∃ k, k < 32 ∧ x = nI k := by
  have hx : 0 ≤ x.toInt ∧ x.toInt < 32 := of_decide_eq_true hx
  exact ⟨x.toInt.toNat, by omega, nI_ofInt hx.1⟩
def isR (pr : Nat → PS) (x : Int32) : Bool := isK x && !decide ((pr x.toInt.toNat).1 = -1)
theorem isR_nat {x : Int32} (hx : isR pr x = true) : ∃ k, k < 32 ∧ x = nI k ∧ ¬ (pr k).1 = -1 := by
  unfold isR at hx
  rw [Bool.and_eq_true] at hx
  have h1 : 0 ≤ x.toInt ∧ x.toInt < 32 := of_decide_eq_true hx.1
  exact ⟨x.toInt.toNat, by omega, nI_ofInt h1.1, by simpa using hx.2⟩
theorem e_isReg (x : Int32) (w : CW h sc lg tn bk bt un pr mk tp an) : ev (d + 2) n_X4_isRegistered [.ref 0, .int x] h (fun u => u = (some (.int (b01 (isR pr x))), h)) := by
  obtain ⟨w1, w2, w3, w4, w5, ⟨f6, w6, w6'⟩, w7, w8, ⟨f9, w9, w9'⟩, ⟨f10, w10, w10'⟩, w11, w12, w13⟩ := w
  refine ev_of q_X4_isRegistered (Nat.le_of_ble_eq_true rfl) ?_
  refine gs_n 1 a_X4_isRegistered_0 rfl ?_
  refine gs_n 2 a_X4_isRegistered_1 rfl ?_
  refine gs_cv 5 a_X4_isRegistered_2 k_4_67 q_X4_isKey (e_isKey x) rfl rfl rfl (by simp [Value.category]) (by first | assumption | exact hs_same _ _ _ | exact (hs_ne _ _ (by first | assumption | decide | omega)).trans (by first | assumption | exact hs_same _ _ _ | exact (hs_ne _ _ (by first | assumption | decide | omega)).trans (by first | assumption | exact hs_same _ _ _ | exact (hs_ne _ _ (by first | assumption | decide | omega)).trans (by first | assumption | exact hs_same _ _ _ | exact (hs_ne _ _ (by first | assumption | decide | omega)).trans (by first | assumption | exact hs_same _ _ _))))) rfl (fun v h1 hp => ?_)
  cases hp
  refine gs_if 25 8 a_X4_isRegistered_5 rfl rfl (fun c => ?_) (fun c => ?_)
  · have c := (b01_0 _).mp c
    refine gs_k (nI 0) 26 a_X4_isRegistered_25 (by decide +kernel) rfl ?_
    refine gs_iret a_X4_isRegistered_26 rfl rfl ?_
    simp [isR, c, b01]
  · have c := (b01_ne _).mp c
    have c' : 0 ≤ x.toInt ∧ x.toInt < 32 := of_decide_eq_true c
    obtain ⟨k, hk, rfl⟩ := isK_nat c
    have hc := w12 k hk
    have hkk : (nI k).toInt.toNat = k := by rw [nI_toInt (by omega)]; rfl
    refine gs_n 9 a_X4_isRegistered_8 rfl ?_
    refine gs_get 12 a_X4_isRegistered_9 f_4_42 (by first | assumption | exact hs_same _ _ _ | exact (hs_ne _ _ (by first | assumption | decide | omega)).trans (by first | assumption | exact hs_same _ _ _ | exact (hs_ne _ _ (by first | assumption | decide | omega)).trans (by first | assumption | exact hs_same _ _ _ | exact (hs_ne _ _ (by first | assumption | decide | omega)).trans (by first | assumption | exact hs_same _ _ _ | exact (hs_ne _ _ (by first | assumption | decide | omega)).trans (by first | assumption | exact hs_same _ _ _))))) rfl rfl ?_
    refine gs_n 13 a_X4_isRegistered_12 rfl ?_
    refine gs_aa k (64 + k) 14 a_X4_isRegistered_13 (by first | assumption | exact hs_same _ _ _ | exact (hs_ne _ _ (by first | assumption | decide | omega)).trans (by first | assumption | exact hs_same _ _ _ | exact (hs_ne _ _ (by first | assumption | decide | omega)).trans (by first | assumption | exact hs_same _ _ _ | exact (hs_ne _ _ (by first | assumption | decide | omega)).trans (by first | assumption | exact hs_same _ _ _ | exact (hs_ne _ _ (by first | assumption | decide | omega)).trans (by first | assumption | exact hs_same _ _ _))))) rfl (by omega) (by decide) (by simp) (w9' k hk) rfl ?_
    refine gs_get 17 a_X4_isRegistered_14 f_4_88 (by first | assumption | exact hs_same _ _ _ | exact (hs_ne _ _ (by first | assumption | decide | omega)).trans (by first | assumption | exact hs_same _ _ _ | exact (hs_ne _ _ (by first | assumption | decide | omega)).trans (by first | assumption | exact hs_same _ _ _ | exact (hs_ne _ _ (by first | assumption | decide | omega)).trans (by first | assumption | exact hs_same _ _ _ | exact (hs_ne _ _ (by first | assumption | decide | omega)).trans (by first | assumption | exact hs_same _ _ _))))) rfl rfl ?_
    refine gs_k (-1) 18 a_X4_isRegistered_17 (by decide +kernel) rfl ?_
    refine gs_ic 25 21 a_X4_isRegistered_18 rfl rfl (fun c2 => ?_) (fun c2 => ?_)
    · have c2 : (pr k).1 = -1 := c2
      refine gs_k (nI 0) 26 a_X4_isRegistered_25 (by decide +kernel) rfl ?_
      refine gs_iret a_X4_isRegistered_26 rfl rfl ?_
      simp [isR, hkk, c2, b01]
    · have c2 : ¬ (pr k).1 = -1 := c2
      refine gs_k (nI 1) 22 a_X4_isRegistered_21 (by decide +kernel) rfl ?_
      refine gs_n 26 a_X4_isRegistered_22 rfl ?_
      refine gs_iret a_X4_isRegistered_26 rfl rfl ?_
      simp [isR, hkk, c2, b01, c]
def isP (sc : SC) (x : Int32) : Bool := decide (0 ≤ x.toInt ∧ x.toInt < sc.1)
theorem isP_nat {x : Int32} (hx : isP sc x = true) : ∃ k, k < sc.1 ∧ x = nI k := by
  have hx : 0 ≤ x.toInt ∧ x.toInt < sc.1 := of_decide_eq_true hx
  exact ⟨x.toInt.toNat, by omega, nI_ofInt hx.1⟩
theorem isP_of {k : Nat} (hk : k < sc.1) (hs : sc.1 ≤ 8) : isP sc (nI k) = true := by
  unfold isP
  rw [nI_toInt (by omega)]
  simp; omega
theorem e_isPart (x : Int32) (w : CW h sc lg tn bk bt un pr mk tp an) : ev (d + 1) n_X4_isPartition [.ref 0, .int x] h (fun u => u = (some (.int (b01 (isP sc x))), h)) := by
  have w1 := w.1
  have w2 := w.2.1
  unfold ocell at w1
  have hs8 := w2.2.1
  refine ev_of q_X4_isPartition (Nat.le_of_ble_eq_true rfl) ?_
  refine gs_n 1 a_X4_isPartition_0 rfl ?_
  refine gs_if 16 4 a_X4_isPartition_1 rfl rfl (fun c => ?_) (fun c => ?_)
  · have c : x < 0 := c
    rw [lt0_iff] at c
    refine gs_k (nI 0) 17 a_X4_isPartition_16 (by decide +kernel) rfl ?_
    refine gs_iret a_X4_isPartition_17 rfl rfl ?_
    simp [b01, isP, show ¬ (0 ≤ x.toInt) by omega]
  · have c : ¬ x < 0 := c
    rw [lt0_iff] at c
    refine gs_n 5 a_X4_isPartition_4 rfl ?_
    refine gs_n 6 a_X4_isPartition_5 rfl ?_
    refine gs_get 9 a_X4_isPartition_6 f_4_146 (by first | assumption | exact hs_same _ _ _ | exact (hs_ne _ _ (by first | assumption | decide | omega)).trans (by first | assumption | exact hs_same _ _ _ | exact (hs_ne _ _ (by first | assumption | decide | omega)).trans (by first | assumption | exact hs_same _ _ _ | exact (hs_ne _ _ (by first | assumption | decide | omega)).trans (by first | assumption | exact hs_same _ _ _ | exact (hs_ne _ _ (by first | assumption | decide | omega)).trans (by first | assumption | exact hs_same _ _ _))))) rfl rfl ?_
    refine gs_ic 16 12 a_X4_isPartition_9 rfl rfl (fun c2 => ?_) (fun c2 => ?_)
    · have c2 : nI sc.1 ≤ x := c2
      rw [ix_le_nI (by omega)] at c2
      refine gs_k (nI 0) 17 a_X4_isPartition_16 (by decide +kernel) rfl ?_
      refine gs_iret a_X4_isPartition_17 rfl rfl ?_
      simp [b01, isP, show ¬ (x.toInt < sc.1) by omega]
    · have c2 : ¬ nI sc.1 ≤ x := c2
      rw [ix_le_nI (by omega)] at c2
      refine gs_k (nI 1) 13 a_X4_isPartition_12 (by decide +kernel) rfl ?_
      refine gs_n 17 a_X4_isPartition_13 rfl ?_
      refine gs_iret a_X4_isPartition_17 rfl rfl ?_
      simp [b01, isP, show 0 ≤ x.toInt by omega, show x.toInt < sc.1 by omega]
def isPl (sc : SC) (g x : Int32) : Bool := decide (0 ≤ g.toInt ∧ g.toInt < 8) && isP sc x
theorem e_isPlace (g x : Int32) (w : CW h sc lg tn bk bt un pr mk tp an) : ev (d + 2) n_X4_isPlace [.ref 0, .int g, .int x] h (fun u => u = (some (.int (b01 (isPl sc g x))), h)) := by
  have w1 := w.1
  unfold ocell at w1
  refine ev_of q_X4_isPlace (Nat.le_of_ble_eq_true rfl) ?_
  refine gs_n 1 a_X4_isPlace_0 rfl ?_
  refine gs_if 22 4 a_X4_isPlace_1 rfl rfl (fun c => ?_) (fun c => ?_)
  · have c : g < 0 := c
    rw [lt0_iff] at c
    refine gs_k (nI 0) 23 a_X4_isPlace_22 (by decide +kernel) rfl ?_
    refine gs_iret a_X4_isPlace_23 rfl rfl ?_
    simp [b01, isPl, show ¬ (0 ≤ g.toInt) by omega]
  · have c : ¬ g < 0 := c
    rw [lt0_iff] at c
    refine gs_n 5 a_X4_isPlace_4 rfl ?_
    refine gs_k (nI 8) 7 a_X4_isPlace_5 (by decide +kernel) rfl ?_
    refine gs_ic 22 10 a_X4_isPlace_7 rfl rfl (fun c2 => ?_) (fun c2 => ?_)
    · have c2 : nI 8 ≤ g := c2
      rw [ix_le_nI (by omega)] at c2
      refine gs_k (nI 0) 23 a_X4_isPlace_22 (by decide +kernel) rfl ?_
      refine gs_iret a_X4_isPlace_23 rfl rfl ?_
      simp [b01, isPl, show ¬ (g.toInt < 8) by omega]
    · have c2 : ¬ nI 8 ≤ g := c2
      rw [ix_le_nI (by omega)] at c2
      refine gs_n 11 a_X4_isPlace_10 rfl ?_
      refine gs_n 12 a_X4_isPlace_11 rfl ?_
      refine gs_cv 15 a_X4_isPlace_12 k_4_125 q_X4_isPartition (e_isPart x w) rfl rfl rfl (by simp [Value.category]) (by first | assumption | exact hs_same _ _ _ | exact (hs_ne _ _ (by first | assumption | decide | omega)).trans (by first | assumption | exact hs_same _ _ _ | exact (hs_ne _ _ (by first | assumption | decide | omega)).trans (by first | assumption | exact hs_same _ _ _ | exact (hs_ne _ _ (by first | assumption | decide | omega)).trans (by first | assumption | exact hs_same _ _ _ | exact (hs_ne _ _ (by first | assumption | decide | omega)).trans (by first | assumption | exact hs_same _ _ _))))) rfl (fun v h1 hp => ?_)
      cases hp
      refine gs_if 22 18 a_X4_isPlace_15 rfl rfl (fun c3 => ?_) (fun c3 => ?_)
      · have c3 := (b01_0 _).mp c3
        refine gs_k (nI 0) 23 a_X4_isPlace_22 (by decide +kernel) rfl ?_
        refine gs_iret a_X4_isPlace_23 rfl rfl ?_
        simp [b01, isPl, c3]
      · have c3 := (b01_ne _).mp c3
        refine gs_k (nI 1) 19 a_X4_isPlace_18 (by decide +kernel) rfl ?_
        refine gs_n 23 a_X4_isPlace_19 rfl ?_
        refine gs_iret a_X4_isPlace_23 rfl rfl ?_
        simp [b01, isPl, c3, show 0 ≤ g.toInt by omega, show g.toInt < 8 by omega]
theorem e_placeOf (g p : Nat) : ev (d + 1) n_X4_placeOf [.ref 0, .int (nI g), .int (nI p)] h (fun u => u = (some (.int (nI (8 * g + p))), h)) := by
  refine ev_of q_X4_placeOf (Nat.le_of_ble_eq_true rfl) ?_
  refine gs_k (nI 8) 2 a_X4_placeOf_0 (by decide +kernel) rfl ?_
  refine gs_n 3 a_X4_placeOf_2 rfl ?_
  refine gs_n 4 a_X4_placeOf_3 rfl ?_
  refine gs_n 5 a_X4_placeOf_4 rfl ?_
  refine gs_n 6 a_X4_placeOf_5 rfl ?_
  refine gs_iret a_X4_placeOf_6 rfl rfl ?_
  rw [pk_mul, nI_add]
/-- how many of the first n -/
def cnt (P : Nat → Bool) : Nat → Nat
  | 0 => 0
  | n + 1 => cnt P n + (if P n then 1 else 0)
theorem cnt_le (P : Nat → Bool) (n : Nat) : cnt P n ≤ n := by
  induction n with
  | zero => exact Nat.le_refl _
  | succ n ih => simp only [cnt]; split <;> omega
def isO (pr : Nat → PS) (k : Nat) : Bool := !decide ((pr k).2.1 = -1)
theorem l_openT (w : CW h sc lg tn bk bt un pr mk tp an) : ∀ (k j : Nat), j + k = 32 →
    gs none (d + 1) mD_X4_openTransactions (4, [(2, .int (nI j)), (1, .int (nI (cnt (isO pr) j))), (0, .ref 0)], [], h) (fun u => u = (some (.int (nI (cnt (isO pr) 32))), h)) := by
  obtain ⟨w1, w2, w3, w4, w5, ⟨f6, w6, w6'⟩, w7, w8, ⟨f9, w9, w9'⟩, ⟨f10, w10, w10'⟩, w11, w12, w13⟩ := w
  unfold ocell at w1
  intro k
  induction k with
  | zero =>
    intro j hj
    obtain rfl : j = 32 := by omega
    refine gs_n 5 a_X4_openTransactions_4 rfl ?_
    refine gs_k (nI 32) 7 a_X4_openTransactions_5 (by decide +kernel) rfl ?_
    refine gs_ic 36 10 a_X4_openTransactions_7 rfl rfl (fun c => ?_) (fun c => ?_)
    · refine gs_n 37 a_X4_openTransactions_36 rfl ?_
      refine gs_iret a_X4_openTransactions_37 rfl rfl ?_
      rfl
    · exact absurd (nI_le (Nat.le_refl 32) (by omega)) c
  | succ k ih =>
    intro j hj
    have hj32 : j < 32 := by omega
    have hcl := cnt_le (isO pr) j
    have hc := w12 j hj32
    have fin : ∀ t, t = (if isO pr j then 1 else 0) → gs none (d + 1) mD_X4_openTransactions (28, [(2, .int (nI j)), (1, .int (nI (cnt (isO pr) j))), (0, .ref 0)], [.int (nI t), .int (nI (cnt (isO pr) j))], h) (fun u => u = (some (.int (nI (cnt (isO pr) 32))), h)) := by
      intro t ht
      refine gs_n 29 a_X4_openTransactions_28 rfl ?_
      refine gs_n 30 a_X4_openTransactions_29 rfl ?_
      first | refine gs_inc _ 33 a_X4_openTransactions_30 rfl (Nat.le_of_ble_eq_true rfl) rfl ?_ | refine gs_n 33 a_X4_openTransactions_30 rfl ?_
      refine gs_n 4 a_X4_openTransactions_33 rfl ?_
      refine gs_w [(2, .int (nI (j + 1))), (1, .int (nI (cnt (isO pr) j) + nI t)), (0, .ref 0)] (by simp [ix_nd]) (by intro x hx; simp only [List.mem_cons, List.not_mem_nil, or_false] at hx; rcases hx with rfl | rfl | rfl <;> rfl) ?_
      rw [nI_add, show cnt (isO pr) j + t = cnt (isO pr) (j + 1) by simp only [cnt, ht]]
      exact ih (j + 1) (by omega)
    refine gs_n 5 a_X4_openTransactions_4 rfl ?_
    refine gs_k (nI 32) 7 a_X4_openTransactions_5 (by decide +kernel) rfl ?_
    refine gs_ic 36 10 a_X4_openTransactions_7 rfl rfl (fun c => ?_) (fun c => ?_)
    · exact absurd c (nI_ge (by omega) (by omega))
    · refine gs_n 11 a_X4_openTransactions_10 rfl ?_
      refine gs_n 12 a_X4_openTransactions_11 rfl ?_
      refine gs_get 15 a_X4_openTransactions_12 f_4_42 (by first | assumption | exact hs_same _ _ _ | exact (hs_ne _ _ (by first | assumption | decide | omega)).trans (by first | assumption | exact hs_same _ _ _ | exact (hs_ne _ _ (by first | assumption | decide | omega)).trans (by first | assumption | exact hs_same _ _ _ | exact (hs_ne _ _ (by first | assumption | decide | omega)).trans (by first | assumption | exact hs_same _ _ _ | exact (hs_ne _ _ (by first | assumption | decide | omega)).trans (by first | assumption | exact hs_same _ _ _))))) rfl rfl ?_
      refine gs_n 16 a_X4_openTransactions_15 rfl ?_
      refine gs_aa j (64 + j) 17 a_X4_openTransactions_16 (by first | assumption | exact hs_same _ _ _ | exact (hs_ne _ _ (by first | assumption | decide | omega)).trans (by first | assumption | exact hs_same _ _ _ | exact (hs_ne _ _ (by first | assumption | decide | omega)).trans (by first | assumption | exact hs_same _ _ _ | exact (hs_ne _ _ (by first | assumption | decide | omega)).trans (by first | assumption | exact hs_same _ _ _ | exact (hs_ne _ _ (by first | assumption | decide | omega)).trans (by first | assumption | exact hs_same _ _ _))))) rfl (by omega) (by decide) (by simp) (w9' j hj32) rfl ?_
      refine gs_cv 20 a_X4_openTransactions_17 k_4_71 q_X2_isOpen (e_isOpen hc) rfl rfl rfl (by simp [Value.category]) (by first | assumption | exact hs_same _ _ _ | exact (hs_ne _ _ (by first | assumption | decide | omega)).trans (by first | assumption | exact hs_same _ _ _ | exact (hs_ne _ _ (by first | assumption | decide | omega)).trans (by first | assumption | exact hs_same _ _ _ | exact (hs_ne _ _ (by first | assumption | decide | omega)).trans (by first | assumption | exact hs_same _ _ _ | exact (hs_ne _ _ (by first | assumption | decide | omega)).trans (by first | assumption | exact hs_same _ _ _))))) rfl (fun v h1 hp => ?_)
      cases hp
      by_cases z : (pr j).2.1 = -1
      · rw [if_pos z]
        refine gs_if 27 23 a_X4_openTransactions_20 rfl rfl (fun c2 => ?_) (fun c2 => ?_)
        · refine gs_k (nI 0) 28 a_X4_openTransactions_27 (by decide +kernel) rfl ?_
          exact fin 0 (by simp [isO, z])
        · exact absurd rfl c2
      · rw [if_neg z]
        refine gs_if 27 23 a_X4_openTransactions_20 rfl rfl (fun c2 => ?_) (fun c2 => ?_)
        · exact absurd (show nI 1 = 0 from c2) (by decide +kernel)
        · refine gs_k (nI 1) 24 a_X4_openTransactions_23 (by decide +kernel) rfl ?_
          refine gs_n 28 a_X4_openTransactions_24 rfl ?_
          exact fin 1 (by simp [isO, z])
theorem e_openTs (w : CW h sc lg tn bk bt un pr mk tp an) : ev (d + 2) n_X4_openTransactions [.ref 0] h (fun u => u = (some (.int (nI (cnt (isO pr) 32))), h)) := by
  refine ev_of q_X4_openTransactions (Nat.le_of_ble_eq_true rfl) ?_
  refine gs_k (nI 0) 1 a_X4_openTransactions_0 (by decide +kernel) rfl ?_
  refine gs_n 2 a_X4_openTransactions_1 rfl ?_
  refine gs_k (nI 0) 3 a_X4_openTransactions_2 (by decide +kernel) rfl ?_
  refine gs_n 4 a_X4_openTransactions_3 rfl ?_
  refine gs_w [(2, .int (nI 0)), (1, .int (nI (cnt (isO pr) 0))), (0, .ref 0)] (by simp [ix_nd]) (by intro x hx; simp only [List.mem_cons, List.not_mem_nil, or_false] at hx; rcases hx with rfl | rfl | rfl <;> rfl) ?_
  exact l_openT w 32 0 (by omega)
end SM
