/-! OnceLedger: more small methods -/
section SM2
variable {d : Nat} {h : ix_H} {sc : SC} {lg : Nat → List En} {tn : Nat → List Nat} {bk : List En} {bt : List Nat} {un : List (Nat × Nat)} {pr : Nat → PS} {mk : Nat → Int32} {tp an : List Nat}
/-- a mask's bit -/
def hasB (m : Int32) (p : Nat) : Bool := decide ((m >>> (nI p &&& 31)) &&& nI 1 = nI 1)
theorem mbit_b01 (m : Int32) (p : Nat) : mbit01 m (nI p) = b01 (hasB m p) := by
  unfold mbit01 b01 hasB
  by_cases z : (m >>> (nI p &&& 31)) &&& nI 1 = nI 1
  · simp [z]
  · simp [z]
def isA (pr : Nat → PS) (p k : Nat) : Bool := hasB (pr k).2.2.2.2.1 p
theorem l_openA (p : Nat) (w : CW h sc lg tn bk bt un pr mk tp an) : ∀ (k j : Nat), j + k = 32 →
    gs none (d + 1) mD_X4_openThatAdded (4, [(3, .int (nI j)), (2, .int (nI (cnt (isA pr p) j))), (0, .ref 0), (1, .int (nI p))], [], h) (fun u => u = (some (.int (nI (cnt (isA pr p) 32))), h)) := by
  obtain ⟨w1, w2, w3, w4, w5, ⟨f6, w6, w6'⟩, w7, w8, ⟨f9, w9, w9'⟩, ⟨f10, w10, w10'⟩, w11, w12, w13⟩ := w
  unfold ocell at w1
  intro k
  induction k with
  | zero =>
    intro j hj
    obtain rfl : j = 32 := by omega
    refine gs_n 5 a_X4_openThatAdded_4 rfl ?_
    refine gs_k (nI 32) 7 a_X4_openThatAdded_5 (by decide +kernel) rfl ?_
    refine gs_ic 37 10 a_X4_openThatAdded_7 rfl rfl (fun c => ?_) (fun c => ?_)
    · refine gs_n 38 a_X4_openThatAdded_37 rfl ?_
      refine gs_iret a_X4_openThatAdded_38 rfl rfl ?_
      rfl
    · exact absurd (nI_le (Nat.le_refl 32) (by omega)) c
  | succ k ih =>
    intro j hj
    have hj32 : j < 32 := by omega
    have hcl := cnt_le (isA pr p) j
    have hc := w12 j hj32
    have fin : ∀ t, t = (if isA pr p j then 1 else 0) → gs none (d + 1) mD_X4_openThatAdded (29, [(3, .int (nI j)), (2, .int (nI (cnt (isA pr p) j))), (0, .ref 0), (1, .int (nI p))], [.int (nI t), .int (nI (cnt (isA pr p) j))], h) (fun u => u = (some (.int (nI (cnt (isA pr p) 32))), h)) := by
      intro t ht
      refine gs_n 30 a_X4_openThatAdded_29 rfl ?_
      refine gs_n 31 a_X4_openThatAdded_30 rfl ?_
      first | refine gs_inc _ 34 a_X4_openThatAdded_31 rfl (Nat.le_of_ble_eq_true rfl) rfl ?_ | refine gs_n 34 a_X4_openThatAdded_31 rfl ?_
      refine gs_n 4 a_X4_openThatAdded_34 rfl ?_
      refine gs_w [(3, .int (nI (j + 1))), (2, .int (nI (cnt (isA pr p) j) + nI t)), (0, .ref 0), (1, .int (nI p))] (by simp [ix_nd]) (by intro x hx; simp only [List.mem_cons, List.not_mem_nil, or_false] at hx; rcases hx with rfl | rfl | rfl | rfl <;> rfl) ?_
      rw [nI_add, show cnt (isA pr p) j + t = cnt (isA pr p) (j + 1) by simp only [cnt, ht]]
      exact ih (j + 1) (by omega)
    refine gs_n 5 a_X4_openThatAdded_4 rfl ?_
    refine gs_k (nI 32) 7 a_X4_openThatAdded_5 (by decide +kernel) rfl ?_
    refine gs_ic 37 10 a_X4_openThatAdded_7 rfl rfl (fun c => ?_) (fun c => ?_)
    · exact absurd c (nI_ge (by omega) (by omega))
    · refine gs_n 11 a_X4_openThatAdded_10 rfl ?_
      refine gs_n 12 a_X4_openThatAdded_11 rfl ?_
      refine gs_get 15 a_X4_openThatAdded_12 f_4_42 (by first | assumption | exact hs_same _ _ _ | exact (hs_ne _ _ (by first | assumption | decide | omega)).trans (by first | assumption | exact hs_same _ _ _ | exact (hs_ne _ _ (by first | assumption | decide | omega)).trans (by first | assumption | exact hs_same _ _ _ | exact (hs_ne _ _ (by first | assumption | decide | omega)).trans (by first | assumption | exact hs_same _ _ _ | exact (hs_ne _ _ (by first | assumption | decide | omega)).trans (by first | assumption | exact hs_same _ _ _))))) rfl rfl ?_
      refine gs_n 16 a_X4_openThatAdded_15 rfl ?_
      refine gs_aa j (64 + j) 17 a_X4_openThatAdded_16 (by first | assumption | exact hs_same _ _ _ | exact (hs_ne _ _ (by first | assumption | decide | omega)).trans (by first | assumption | exact hs_same _ _ _ | exact (hs_ne _ _ (by first | assumption | decide | omega)).trans (by first | assumption | exact hs_same _ _ _ | exact (hs_ne _ _ (by first | assumption | decide | omega)).trans (by first | assumption | exact hs_same _ _ _ | exact (hs_ne _ _ (by first | assumption | decide | omega)).trans (by first | assumption | exact hs_same _ _ _))))) rfl (by omega) (by decide) (by simp) (w9' j hj32) rfl ?_
      refine gs_n 18 a_X4_openThatAdded_17 rfl ?_
      refine gs_cv 21 a_X4_openThatAdded_18 k_4_243 q_X2_hasAdded (e_hasAdded (nI p) hc) rfl rfl rfl (by simp [Value.category]) (by first | assumption | exact hs_same _ _ _ | exact (hs_ne _ _ (by first | assumption | decide | omega)).trans (by first | assumption | exact hs_same _ _ _ | exact (hs_ne _ _ (by first | assumption | decide | omega)).trans (by first | assumption | exact hs_same _ _ _ | exact (hs_ne _ _ (by first | assumption | decide | omega)).trans (by first | assumption | exact hs_same _ _ _ | exact (hs_ne _ _ (by first | assumption | decide | omega)).trans (by first | assumption | exact hs_same _ _ _))))) rfl (fun v h1 hp => ?_)
      cases hp
      rw [mbit_b01]
      refine gs_if 28 24 a_X4_openThatAdded_21 rfl rfl (fun c2 => ?_) (fun c2 => ?_)
      · have c2 := (b01_0 _).mp c2
        refine gs_k (nI 0) 29 a_X4_openThatAdded_28 (by decide +kernel) rfl ?_
        exact fin 0 (by simp [isA, c2])
      · have c2 := (b01_ne _).mp c2
        refine gs_k (nI 1) 25 a_X4_openThatAdded_24 (by decide +kernel) rfl ?_
        refine gs_n 29 a_X4_openThatAdded_25 rfl ?_
        exact fin 1 (by simp [isA, c2])
theorem e_openA (p : Nat) (w : CW h sc lg tn bk bt un pr mk tp an) : ev (d + 2) n_X4_openThatAdded [.ref 0, .int (nI p)] h (fun u => u = (some (.int (nI (cnt (isA pr p) 32))), h)) := by
  refine ev_of q_X4_openThatAdded (Nat.le_of_ble_eq_true rfl) ?_
  refine gs_k (nI 0) 1 a_X4_openThatAdded_0 (by decide +kernel) rfl ?_
  refine gs_n 2 a_X4_openThatAdded_1 rfl ?_
  refine gs_k (nI 0) 3 a_X4_openThatAdded_2 (by decide +kernel) rfl ?_
  refine gs_n 4 a_X4_openThatAdded_3 rfl ?_
  refine gs_w [(3, .int (nI 0)), (2, .int (nI (cnt (isA pr p) 0))), (0, .ref 0), (1, .int (nI p))] (by simp [ix_nd]) (by intro x hx; simp only [List.mem_cons, List.not_mem_nil, or_false] at hx; rcases hx with rfl | rfl | rfl | rfl <;> rfl) ?_
  exact l_openA p w 32 0 (by omega)
def isRk (pr : Nat → PS) (k : Nat) : Bool := !decide ((pr k).1 = -1)
theorem isR_k {k : Nat} (hk : k < 32) : isR pr (nI k) = isRk pr k := by
  unfold isR isRk isK
  rw [nI_toInt (by omega)]
  simp [hk]
  intro _
  omega
theorem l_regP (w : CW h sc lg tn bk bt un pr mk tp an) : ∀ (k j : Nat), j + k = 32 →
    gs none (d + 2) mD_X4_registeredProducers (4, [(2, .int (nI j)), (1, .int (nI (cnt (isRk pr) j))), (0, .ref 0)], [], h) (fun u => u = (some (.int (nI (cnt (isRk pr) 32))), h)) := by
  have w1 := w.1
  unfold ocell at w1
  intro k
  induction k with
  | zero =>
    intro j hj
    obtain rfl : j = 32 := by omega
    refine gs_n 5 a_X4_registeredProducers_4 rfl ?_
    refine gs_k (nI 32) 7 a_X4_registeredProducers_5 (by decide +kernel) rfl ?_
    refine gs_ic 32 10 a_X4_registeredProducers_7 rfl rfl (fun c => ?_) (fun c => ?_)
    · refine gs_n 33 a_X4_registeredProducers_32 rfl ?_
      refine gs_iret a_X4_registeredProducers_33 rfl rfl ?_
      rfl
    · exact absurd (nI_le (Nat.le_refl 32) (by omega)) c
  | succ k ih =>
    intro j hj
    have hj32 : j < 32 := by omega
    have hcl := cnt_le (isRk pr) j
    have fin : ∀ t, t = (if isRk pr j then 1 else 0) → gs none (d + 2) mD_X4_registeredProducers (24, [(2, .int (nI j)), (1, .int (nI (cnt (isRk pr) j))), (0, .ref 0)], [.int (nI t), .int (nI (cnt (isRk pr) j))], h) (fun u => u = (some (.int (nI (cnt (isRk pr) 32))), h)) := by
      intro t ht
      refine gs_n 25 a_X4_registeredProducers_24 rfl ?_
      refine gs_n 26 a_X4_registeredProducers_25 rfl ?_
      first | refine gs_inc _ 29 a_X4_registeredProducers_26 rfl (Nat.le_of_ble_eq_true rfl) rfl ?_ | refine gs_n 29 a_X4_registeredProducers_26 rfl ?_
      refine gs_n 4 a_X4_registeredProducers_29 rfl ?_
      refine gs_w [(2, .int (nI (j + 1))), (1, .int (nI (cnt (isRk pr) j) + nI t)), (0, .ref 0)] (by simp [ix_nd]) (by intro x hx; simp only [List.mem_cons, List.not_mem_nil, or_false] at hx; rcases hx with rfl | rfl | rfl <;> rfl) ?_
      rw [nI_add, show cnt (isRk pr) j + t = cnt (isRk pr) (j + 1) by simp only [cnt, ht]]
      exact ih (j + 1) (by omega)
    refine gs_n 5 a_X4_registeredProducers_4 rfl ?_
    refine gs_k (nI 32) 7 a_X4_registeredProducers_5 (by decide +kernel) rfl ?_
    refine gs_ic 32 10 a_X4_registeredProducers_7 rfl rfl (fun c => ?_) (fun c => ?_)
    · exact absurd c (nI_ge (by omega) (by omega))
    · refine gs_n 11 a_X4_registeredProducers_10 rfl ?_
      refine gs_n 12 a_X4_registeredProducers_11 rfl ?_
      refine gs_n 13 a_X4_registeredProducers_12 rfl ?_
      refine gs_cv 16 a_X4_registeredProducers_13 k_4_202 q_X4_isRegistered (e_isReg (nI j) w) rfl rfl rfl (by simp [Value.category]) (by first | assumption | exact hs_same _ _ _ | exact (hs_ne _ _ (by first | assumption | decide | omega)).trans (by first | assumption | exact hs_same _ _ _ | exact (hs_ne _ _ (by first | assumption | decide | omega)).trans (by first | assumption | exact hs_same _ _ _ | exact (hs_ne _ _ (by first | assumption | decide | omega)).trans (by first | assumption | exact hs_same _ _ _ | exact (hs_ne _ _ (by first | assumption | decide | omega)).trans (by first | assumption | exact hs_same _ _ _))))) rfl (fun v h1 hp => ?_)
      cases hp
      rw [isR_k hj32]
      refine gs_if 23 19 a_X4_registeredProducers_16 rfl rfl (fun c2 => ?_) (fun c2 => ?_)
      · have c2 := (b01_0 _).mp c2
        refine gs_k (nI 0) 24 a_X4_registeredProducers_23 (by decide +kernel) rfl ?_
        exact fin 0 (by simp [c2])
      · have c2 := (b01_ne _).mp c2
        refine gs_k (nI 1) 20 a_X4_registeredProducers_19 (by decide +kernel) rfl ?_
        refine gs_n 24 a_X4_registeredProducers_20 rfl ?_
        exact fin 1 (by simp [c2])
theorem e_regP (w : CW h sc lg tn bk bt un pr mk tp an) : ev (d + 3) n_X4_registeredProducers [.ref 0] h (fun u => u = (some (.int (nI (cnt (isRk pr) 32))), h)) := by
  refine ev_of q_X4_registeredProducers (Nat.le_of_ble_eq_true rfl) ?_
  refine gs_k (nI 0) 1 a_X4_registeredProducers_0 (by decide +kernel) rfl ?_
  refine gs_n 2 a_X4_registeredProducers_1 rfl ?_
  refine gs_k (nI 0) 3 a_X4_registeredProducers_2 (by decide +kernel) rfl ?_
  refine gs_n 4 a_X4_registeredProducers_3 rfl ?_
  refine gs_w [(2, .int (nI 0)), (1, .int (nI (cnt (isRk pr) 0))), (0, .ref 0)] (by simp [ix_nd]) (by intro x hx; simp only [List.mem_cons, List.not_mem_nil, or_false] at hx; rcases hx with rfl | rfl | rfl <;> rfl) ?_
  exact l_regP w 32 0 (by omega)
theorem e_rowOf (p : Nat) (hp : p ≤ sc.1) (w : CW h sc lg tn bk bt un pr mk tp an) : ev (d + 2) n_X4_rowOf [.ref 0, .int (nI p)] h (fun u => u = (some (.ref (if p < sc.1 then 16 + 6 * p + 1 else 8)), h)) := by
  have w0 := w
  obtain ⟨w1, w2, w3, w4, w5, ⟨f6, w6, w6'⟩, w7, w8, ⟨f9, w9, w9'⟩, ⟨f10, w10, w10'⟩, w11, w12, w13⟩ := w
  unfold ocell at w1
  have hs8 := w2.2.1
  refine ev_of q_X4_rowOf (Nat.le_of_ble_eq_true rfl) ?_
  refine gs_n 1 a_X4_rowOf_0 rfl ?_
  refine gs_n 2 a_X4_rowOf_1 rfl ?_
  refine gs_cv 5 a_X4_rowOf_2 k_4_125 q_X4_isPartition (e_isPart (nI p) w0) rfl rfl rfl (by simp [Value.category]) (by first | assumption | exact hs_same _ _ _ | exact (hs_ne _ _ (by first | assumption | decide | omega)).trans (by first | assumption | exact hs_same _ _ _ | exact (hs_ne _ _ (by first | assumption | decide | omega)).trans (by first | assumption | exact hs_same _ _ _ | exact (hs_ne _ _ (by first | assumption | decide | omega)).trans (by first | assumption | exact hs_same _ _ _ | exact (hs_ne _ _ (by first | assumption | decide | omega)).trans (by first | assumption | exact hs_same _ _ _))))) rfl (fun v h1 hp => ?_)
  cases hp
  refine gs_if 20 8 a_X4_rowOf_5 rfl rfl (fun c => ?_) (fun c => ?_)
  · have c := (b01_0 _).mp c
    have hlt : ¬ p < sc.1 := fun z => by rw [isP_of z hs8] at c; cases c
    rw [if_neg hlt]
    refine gs_n 21 a_X4_rowOf_20 rfl ?_
    refine gs_get 24 a_X4_rowOf_21 f_4_30 (by first | assumption | exact hs_same _ _ _ | exact (hs_ne _ _ (by first | assumption | decide | omega)).trans (by first | assumption | exact hs_same _ _ _ | exact (hs_ne _ _ (by first | assumption | decide | omega)).trans (by first | assumption | exact hs_same _ _ _ | exact (hs_ne _ _ (by first | assumption | decide | omega)).trans (by first | assumption | exact hs_same _ _ _ | exact (hs_ne _ _ (by first | assumption | decide | omega)).trans (by first | assumption | exact hs_same _ _ _))))) rfl rfl ?_
    refine gs_aret a_X4_rowOf_24 rfl ?_
    rfl
  · have c := (b01_ne _).mp c
    have hlt : p < sc.1 := by
      have : 0 ≤ (nI p).toInt ∧ (nI p).toInt < sc.1 := of_decide_eq_true c
      rw [nI_toInt (by omega)] at this
      omega
    rw [if_pos hlt]
    have hl1 := (w11 p (by omega)).1
    refine gs_n 9 a_X4_rowOf_8 rfl ?_
    refine gs_get 12 a_X4_rowOf_9 f_4_26 (by first | assumption | exact hs_same _ _ _ | exact (hs_ne _ _ (by first | assumption | decide | omega)).trans (by first | assumption | exact hs_same _ _ _ | exact (hs_ne _ _ (by first | assumption | decide | omega)).trans (by first | assumption | exact hs_same _ _ _ | exact (hs_ne _ _ (by first | assumption | decide | omega)).trans (by first | assumption | exact hs_same _ _ _ | exact (hs_ne _ _ (by first | assumption | decide | omega)).trans (by first | assumption | exact hs_same _ _ _))))) rfl rfl ?_
    refine gs_n 13 a_X4_rowOf_12 rfl ?_
    refine gs_aa p (16 + 6 * p) 14 a_X4_rowOf_13 (by first | assumption | exact hs_same _ _ _ | exact (hs_ne _ _ (by first | assumption | decide | omega)).trans (by first | assumption | exact hs_same _ _ _ | exact (hs_ne _ _ (by first | assumption | decide | omega)).trans (by first | assumption | exact hs_same _ _ _ | exact (hs_ne _ _ (by first | assumption | decide | omega)).trans (by first | assumption | exact hs_same _ _ _ | exact (hs_ne _ _ (by first | assumption | decide | omega)).trans (by first | assumption | exact hs_same _ _ _))))) rfl (by omega) (by decide) (by simp) (w6' p (by omega)) rfl ?_
    refine gs_get 17 a_X4_rowOf_14 f_4_186 (by first | assumption | exact hs_same _ _ _ | exact (hs_ne _ _ (by first | assumption | decide | omega)).trans (by first | assumption | exact hs_same _ _ _ | exact (hs_ne _ _ (by first | assumption | decide | omega)).trans (by first | assumption | exact hs_same _ _ _ | exact (hs_ne _ _ (by first | assumption | decide | omega)).trans (by first | assumption | exact hs_same _ _ _ | exact (hs_ne _ _ (by first | assumption | decide | omega)).trans (by first | assumption | exact hs_same _ _ _))))) rfl rfl ?_
    refine gs_n 24 a_X4_rowOf_17 rfl ?_
    refine gs_aret a_X4_rowOf_24 rfl ?_
    rfl
def rfz (sc : SC) (pr : Nat → PS) (key ep : Int32) (known : Bool) : Int32 := if sc.2.2.2.2.1 then -1 else if (known && isR pr key) = false then -2 else if (pr key.toInt.toNat).1 = ep then nI 0 else -3
theorem e_refusal (key ep : Int32) (kn : Bool) (w : CW h sc lg tn bk bt un pr mk tp an) : ev (d + 3) n_X4_refusalOf [.ref 0, .int key, .int ep, .int (b01 kn)] h (fun u => u = (some (.int (rfz sc pr key ep kn)), h)) := by
  have w0 := w
  obtain ⟨w1, w2, w3, w4, w5, ⟨f6, w6, w6'⟩, w7, w8, ⟨f9, w9, w9'⟩, ⟨f10, w10, w10'⟩, w11, w12, w13⟩ := w
  unfold ocell at w1
  refine ev_of q_X4_refusalOf (Nat.le_of_ble_eq_true rfl) ?_
  refine gs_n 1 a_X4_refusalOf_0 rfl ?_
  refine gs_get 4 a_X4_refusalOf_1 f_4_63 (by first | assumption | exact hs_same _ _ _ | exact (hs_ne _ _ (by first | assumption | decide | omega)).trans (by first | assumption | exact hs_same _ _ _ | exact (hs_ne _ _ (by first | assumption | decide | omega)).trans (by first | assumption | exact hs_same _ _ _ | exact (hs_ne _ _ (by first | assumption | decide | omega)).trans (by first | assumption | exact hs_same _ _ _ | exact (hs_ne _ _ (by first | assumption | decide | omega)).trans (by first | assumption | exact hs_same _ _ _))))) rfl rfl ?_
  refine gs_if 9 7 a_X4_refusalOf_4 rfl rfl (fun c => ?_) (fun c => ?_)
  · have c := (b01_0 _).mp c
    refine gs_n 10 a_X4_refusalOf_9 rfl ?_
    refine gs_if 21 13 a_X4_refusalOf_10 rfl rfl (fun c2 => ?_) (fun c2 => ?_)
    · have c2 := (b01_0 _).mp c2
      refine gs_k (-2) 23 a_X4_refusalOf_21 (by decide +kernel) rfl ?_
      refine gs_iret a_X4_refusalOf_23 rfl rfl ?_
      simp [rfz, c, c2]
    · have c2 := (b01_ne _).mp c2
      refine gs_n 14 a_X4_refusalOf_13 rfl ?_
      refine gs_n 15 a_X4_refusalOf_14 rfl ?_
      refine gs_cv 18 a_X4_refusalOf_15 k_4_202 q_X4_isRegistered (e_isReg key w0) rfl rfl rfl (by simp [Value.category]) (by first | assumption | exact hs_same _ _ _ | exact (hs_ne _ _ (by first | assumption | decide | omega)).trans (by first | assumption | exact hs_same _ _ _ | exact (hs_ne _ _ (by first | assumption | decide | omega)).trans (by first | assumption | exact hs_same _ _ _ | exact (hs_ne _ _ (by first | assumption | decide | omega)).trans (by first | assumption | exact hs_same _ _ _ | exact (hs_ne _ _ (by first | assumption | decide | omega)).trans (by first | assumption | exact hs_same _ _ _))))) rfl (fun v h1 hp => ?_)
      cases hp
      refine gs_if 24 21 a_X4_refusalOf_18 rfl rfl (fun c3 => ?_) (fun c3 => ?_)
      · have c3 := (b01_ne _).mp c3
        obtain ⟨k, hk, rfl, hr⟩ := isR_nat c3
        have hc := w12 k hk
        have hkk : (nI k).toInt.toNat = k := by rw [nI_toInt (by omega)]; rfl
        refine gs_n 25 a_X4_refusalOf_24 rfl ?_
        refine gs_get 28 a_X4_refusalOf_25 f_4_42 (by first | assumption | exact hs_same _ _ _ | exact (hs_ne _ _ (by first | assumption | decide | omega)).trans (by first | assumption | exact hs_same _ _ _ | exact (hs_ne _ _ (by first | assumption | decide | omega)).trans (by first | assumption | exact hs_same _ _ _ | exact (hs_ne _ _ (by first | assumption | decide | omega)).trans (by first | assumption | exact hs_same _ _ _ | exact (hs_ne _ _ (by first | assumption | decide | omega)).trans (by first | assumption | exact hs_same _ _ _))))) rfl rfl ?_
        refine gs_n 29 a_X4_refusalOf_28 rfl ?_
        refine gs_aa k (64 + k) 30 a_X4_refusalOf_29 (by first | assumption | exact hs_same _ _ _ | exact (hs_ne _ _ (by first | assumption | decide | omega)).trans (by first | assumption | exact hs_same _ _ _ | exact (hs_ne _ _ (by first | assumption | decide | omega)).trans (by first | assumption | exact hs_same _ _ _ | exact (hs_ne _ _ (by first | assumption | decide | omega)).trans (by first | assumption | exact hs_same _ _ _ | exact (hs_ne _ _ (by first | assumption | decide | omega)).trans (by first | assumption | exact hs_same _ _ _))))) rfl (by omega) (by decide) (by simp) (w9' k hk) rfl ?_
        refine gs_get 33 a_X4_refusalOf_30 f_4_88 (by first | assumption | exact hs_same _ _ _ | exact (hs_ne _ _ (by first | assumption | decide | omega)).trans (by first | assumption | exact hs_same _ _ _ | exact (hs_ne _ _ (by first | assumption | decide | omega)).trans (by first | assumption | exact hs_same _ _ _ | exact (hs_ne _ _ (by first | assumption | decide | omega)).trans (by first | assumption | exact hs_same _ _ _ | exact (hs_ne _ _ (by first | assumption | decide | omega)).trans (by first | assumption | exact hs_same _ _ _))))) rfl rfl ?_
        refine gs_n 34 a_X4_refusalOf_33 rfl ?_
        refine gs_ic 41 37 a_X4_refusalOf_34 rfl rfl (fun c4 => ?_) (fun c4 => ?_)
        · have c4 : ¬ (pr k).1 = ep := c4
          refine gs_k (-3) 43 a_X4_refusalOf_41 (by decide +kernel) rfl ?_
          refine gs_iret a_X4_refusalOf_43 rfl rfl ?_
          simp [rfz, c, c2, c3, hkk, c4]
        · have c4 : (pr k).1 = ep := Classical.byContradiction c4
          refine gs_k (nI 0) 38 a_X4_refusalOf_37 (by decide +kernel) rfl ?_
          refine gs_n 43 a_X4_refusalOf_38 rfl ?_
          refine gs_iret a_X4_refusalOf_43 rfl rfl ?_
          simp [rfz, c, c2, c3, hkk, c4]
      · have c3 : isR pr key = false := (b01_0 _).mp (Classical.byContradiction c3)
        refine gs_k (-2) 23 a_X4_refusalOf_21 (by decide +kernel) rfl ?_
        refine gs_iret a_X4_refusalOf_23 rfl rfl ?_
        simp [rfz, c, c2, c3]
  · have c := (b01_ne _).mp c
    refine gs_k (-1) 8 a_X4_refusalOf_7 (by decide +kernel) rfl ?_
    refine gs_iret a_X4_refusalOf_8 rfl rfl ?_
    simp [rfz, c]
/-- whether the book has room, with so many more open -/
def bkRoom (bk : List En) (bt : List Nat) (pr : Nat → PS) (more : Nat) : Bool := decide (16 * bk.length + bt.length + 16 + 48 * (cnt (isO pr) 32 + more) ≤ 16000)
theorem e_bookRoom (more : Nat) (hm : more ≤ 1) (w : CW h sc lg tn bk bt un pr mk tp an) : ev (d + 3) n_X4_bookHasRoom [.ref 0, .int (nI more)] h (fun u => u = (some (.int (b01 (bkRoom bk bt pr more))), h)) := by
  have w0 := w
  obtain ⟨w1, w2, w3, w4, w5, ⟨f6, w6, w6'⟩, w7, w8, ⟨f9, w9, w9'⟩, ⟨f10, w10, w10'⟩, w11, w12, w13⟩ := w
  unfold ocell at w1
  have hr1 := w7.1
  have hle := w7.2.2.1
  have hcl := cnt_le (isO pr) 32
  rw [List.length_append, flatB_len] at hr1 hle
  refine ev_of q_X4_bookHasRoom (Nat.le_of_ble_eq_true rfl) ?_
  refine gs_n 1 a_X4_bookHasRoom_0 rfl ?_
  refine gs_cv 4 a_X4_bookHasRoom_1 k_4_229 q_X4_openTransactions (e_openTs w0) rfl rfl rfl (by simp [Value.category]) (by first | assumption | exact hs_same _ _ _ | exact (hs_ne _ _ (by first | assumption | decide | omega)).trans (by first | assumption | exact hs_same _ _ _ | exact (hs_ne _ _ (by first | assumption | decide | omega)).trans (by first | assumption | exact hs_same _ _ _ | exact (hs_ne _ _ (by first | assumption | decide | omega)).trans (by first | assumption | exact hs_same _ _ _ | exact (hs_ne _ _ (by first | assumption | decide | omega)).trans (by first | assumption | exact hs_same _ _ _))))) rfl (fun v h1 hp => ?_)
  cases hp
  refine gs_n 5 a_X4_bookHasRoom_4 rfl ?_
  refine gs_n 6 a_X4_bookHasRoom_5 rfl ?_
  refine gs_n 7 a_X4_bookHasRoom_6 rfl ?_
  refine gs_n 8 a_X4_bookHasRoom_7 rfl ?_
  refine gs_get 11 a_X4_bookHasRoom_8 f_4_30 (by first | assumption | exact hs_same _ _ _ | exact (hs_ne _ _ (by first | assumption | decide | omega)).trans (by first | assumption | exact hs_same _ _ _ | exact (hs_ne _ _ (by first | assumption | decide | omega)).trans (by first | assumption | exact hs_same _ _ _ | exact (hs_ne _ _ (by first | assumption | decide | omega)).trans (by first | assumption | exact hs_same _ _ _ | exact (hs_ne _ _ (by first | assumption | decide | omega)).trans (by first | assumption | exact hs_same _ _ _))))) rfl rfl ?_
  refine gs_get 14 a_X4_bookHasRoom_11 f_4_56 (by first | assumption | exact hs_same _ _ _ | exact (hs_ne _ _ (by first | assumption | decide | omega)).trans (by first | assumption | exact hs_same _ _ _ | exact (hs_ne _ _ (by first | assumption | decide | omega)).trans (by first | assumption | exact hs_same _ _ _ | exact (hs_ne _ _ (by first | assumption | decide | omega)).trans (by first | assumption | exact hs_same _ _ _ | exact (hs_ne _ _ (by first | assumption | decide | omega)).trans (by first | assumption | exact hs_same _ _ _))))) rfl rfl ?_
  refine gs_k (nI 16) 16 a_X4_bookHasRoom_14 (by decide +kernel) rfl ?_
  refine gs_n 17 a_X4_bookHasRoom_16 rfl ?_
  refine gs_k (nI 48) 19 a_X4_bookHasRoom_17 (by decide +kernel) rfl ?_
  refine gs_n 20 a_X4_bookHasRoom_19 rfl ?_
  refine gs_n 21 a_X4_bookHasRoom_20 rfl ?_
  refine gs_n 22 a_X4_bookHasRoom_21 rfl ?_
  refine gs_top (nI (16 * bk.length + bt.length + 16 + 48 * (cnt (isO pr) 32 + more))) (by rw [nI_add, nI_add, pk_mul, nI_add]) ?_
  refine gs_k (nI 16000) 25 a_X4_bookHasRoom_22 (by decide +kernel) rfl ?_
  refine gs_ic 32 28 a_X4_bookHasRoom_25 rfl rfl (fun c => ?_) (fun c => ?_)
  · have c : nI 16000 < nI (16 * bk.length + bt.length + 16 + 48 * (cnt (isO pr) 32 + more)) := c
    rw [nI_ltI (by omega) (by omega)] at c
    refine gs_k (nI 0) 33 a_X4_bookHasRoom_32 (by decide +kernel) rfl ?_
    refine gs_iret a_X4_bookHasRoom_33 rfl rfl ?_
    simp only [bkRoom, decide_eq_false (show ¬ (16 * bk.length + bt.length + 16 + 48 * (cnt (isO pr) 32 + more) ≤ 16000) by omega)]
    rfl
  · have c : ¬ nI 16000 < nI (16 * bk.length + bt.length + 16 + 48 * (cnt (isO pr) 32 + more)) := c
    rw [nI_ltI (by omega) (by omega)] at c
    refine gs_k (nI 1) 29 a_X4_bookHasRoom_28 (by decide +kernel) rfl ?_
    refine gs_n 33 a_X4_bookHasRoom_29 rfl ?_
    refine gs_iret a_X4_bookHasRoom_33 rfl rfl ?_
    simp only [bkRoom, decide_eq_true (show (16 * bk.length + bt.length + 16 + 48 * (cnt (isO pr) 32 + more) ≤ 16000) by omega)]
    rfl
/-- whether a partition has room for the tape -/
def lgRoom (sc : SC) (lg : Nat → List En) (tn : Nat → List Nat) (pr : Nat → PS) (tp : List Nat) (p : Nat) (adds : Bool) : Bool := decide (((lg p).flatMap encP ++ tn p).length + 14 + tp.length + 14 * (cnt (isA pr p) 32 + (if adds then 1 else 0)) ≤ sc.2.1)
theorem e_logRoom (p : Nat) (adds : Bool) (hp8 : p < 8) (w : CW h sc lg tn bk bt un pr mk tp an) : ev (d + 3) n_X4_logHasRoom [.ref 0, .int (nI p), .int (b01 adds)] h (fun u => u = (some (.int (b01 (lgRoom sc lg tn pr tp p adds))), h)) := by
  have w0 := w
  obtain ⟨w1, w2, w3, w4, w5, ⟨f6, w6, w6'⟩, w7, w8, ⟨f9, w9, w9'⟩, ⟨f10, w10, w10'⟩, w11, w12, w13⟩ := w
  unfold ocell at w1
  have hl := w11 p hp8
  have hl1 := hl.1
  have hr1 := hl.2.1.1
  have hle := hl.2.1.2.2.1
  have ht1 := w3.1
  have htl := w3.2.2.1
  have hcap := w2.2.2.2.1
  have hcl := cnt_le (isA pr p) 32
  have fin : ∀ t, t = (if adds then 1 else 0) → gs none (d + 2) mD_X4_logHasRoom (14, [(0, .ref 0), (1, .int (nI p))], [.int (nI t), .int (nI (cnt (isA pr p) 32))], h) (fun u => u = (some (.int (b01 (lgRoom sc lg tn pr tp p adds))), h)) := by
    intro t ht
    have ht1' : t ≤ 1 := by rw [ht]; split <;> omega
    refine gs_n 15 a_X4_logHasRoom_14 rfl ?_
    refine gs_n 16 a_X4_logHasRoom_15 rfl ?_
    refine gs_n 17 a_X4_logHasRoom_16 rfl ?_
    refine gs_get 20 a_X4_logHasRoom_17 f_4_26 (by first | assumption | exact hs_same _ _ _ | exact (hs_ne _ _ (by first | assumption | decide | omega)).trans (by first | assumption | exact hs_same _ _ _ | exact (hs_ne _ _ (by first | assumption | decide | omega)).trans (by first | assumption | exact hs_same _ _ _ | exact (hs_ne _ _ (by first | assumption | decide | omega)).trans (by first | assumption | exact hs_same _ _ _ | exact (hs_ne _ _ (by first | assumption | decide | omega)).trans (by first | assumption | exact hs_same _ _ _))))) rfl rfl ?_
    refine gs_n 21 a_X4_logHasRoom_20 rfl ?_
    refine gs_aa p (16 + 6 * p) 22 a_X4_logHasRoom_21 (by first | assumption | exact hs_same _ _ _ | exact (hs_ne _ _ (by first | assumption | decide | omega)).trans (by first | assumption | exact hs_same _ _ _ | exact (hs_ne _ _ (by first | assumption | decide | omega)).trans (by first | assumption | exact hs_same _ _ _ | exact (hs_ne _ _ (by first | assumption | decide | omega)).trans (by first | assumption | exact hs_same _ _ _ | exact (hs_ne _ _ (by first | assumption | decide | omega)).trans (by first | assumption | exact hs_same _ _ _))))) rfl (by omega) (by decide) (by simp) (w6' p hp8) rfl ?_
    refine gs_get 25 a_X4_logHasRoom_22 f_4_186 (by first | assumption | exact hs_same _ _ _ | exact (hs_ne _ _ (by first | assumption | decide | omega)).trans (by first | assumption | exact hs_same _ _ _ | exact (hs_ne _ _ (by first | assumption | decide | omega)).trans (by first | assumption | exact hs_same _ _ _ | exact (hs_ne _ _ (by first | assumption | decide | omega)).trans (by first | assumption | exact hs_same _ _ _ | exact (hs_ne _ _ (by first | assumption | decide | omega)).trans (by first | assumption | exact hs_same _ _ _))))) rfl rfl ?_
    refine gs_get 28 a_X4_logHasRoom_25 f_4_56 (by first | assumption | exact hs_same _ _ _ | exact (hs_ne _ _ (by first | assumption | decide | omega)).trans (by first | assumption | exact hs_same _ _ _ | exact (hs_ne _ _ (by first | assumption | decide | omega)).trans (by first | assumption | exact hs_same _ _ _ | exact (hs_ne _ _ (by first | assumption | decide | omega)).trans (by first | assumption | exact hs_same _ _ _ | exact (hs_ne _ _ (by first | assumption | decide | omega)).trans (by first | assumption | exact hs_same _ _ _))))) rfl rfl ?_
    refine gs_k (nI 14) 30 a_X4_logHasRoom_28 (by decide +kernel) rfl ?_
    refine gs_n 31 a_X4_logHasRoom_30 rfl ?_
    refine gs_n 32 a_X4_logHasRoom_31 rfl ?_
    refine gs_get 35 a_X4_logHasRoom_32 f_4_14 (by first | assumption | exact hs_same _ _ _ | exact (hs_ne _ _ (by first | assumption | decide | omega)).trans (by first | assumption | exact hs_same _ _ _ | exact (hs_ne _ _ (by first | assumption | decide | omega)).trans (by first | assumption | exact hs_same _ _ _ | exact (hs_ne _ _ (by first | assumption | decide | omega)).trans (by first | assumption | exact hs_same _ _ _ | exact (hs_ne _ _ (by first | assumption | decide | omega)).trans (by first | assumption | exact hs_same _ _ _))))) rfl rfl ?_
    refine gs_get 38 a_X4_logHasRoom_35 f_4_56 (by first | assumption | exact hs_same _ _ _ | exact (hs_ne _ _ (by first | assumption | decide | omega)).trans (by first | assumption | exact hs_same _ _ _ | exact (hs_ne _ _ (by first | assumption | decide | omega)).trans (by first | assumption | exact hs_same _ _ _ | exact (hs_ne _ _ (by first | assumption | decide | omega)).trans (by first | assumption | exact hs_same _ _ _ | exact (hs_ne _ _ (by first | assumption | decide | omega)).trans (by first | assumption | exact hs_same _ _ _))))) rfl rfl ?_
    refine gs_n 39 a_X4_logHasRoom_38 rfl ?_
    refine gs_k (nI 14) 41 a_X4_logHasRoom_39 (by decide +kernel) rfl ?_
    refine gs_n 42 a_X4_logHasRoom_41 rfl ?_
    refine gs_n 43 a_X4_logHasRoom_42 rfl ?_
    refine gs_n 44 a_X4_logHasRoom_43 rfl ?_
    refine gs_top (nI (((lg p).flatMap encP ++ tn p).length + 14 + tp.length + 14 * (cnt (isA pr p) 32 + t))) (by rw [nI_add, nI_add, nI_add, pk_mul, nI_add]) ?_
    refine gs_n 45 a_X4_logHasRoom_44 rfl ?_
    refine gs_get 48 a_X4_logHasRoom_45 f_4_220 (by first | assumption | exact hs_same _ _ _ | exact (hs_ne _ _ (by first | assumption | decide | omega)).trans (by first | assumption | exact hs_same _ _ _ | exact (hs_ne _ _ (by first | assumption | decide | omega)).trans (by first | assumption | exact hs_same _ _ _ | exact (hs_ne _ _ (by first | assumption | decide | omega)).trans (by first | assumption | exact hs_same _ _ _ | exact (hs_ne _ _ (by first | assumption | decide | omega)).trans (by first | assumption | exact hs_same _ _ _))))) rfl rfl ?_
    unfold lgRoom
    rw [← ht]
    refine gs_ic 55 51 a_X4_logHasRoom_48 rfl rfl (fun c => ?_) (fun c => ?_)
    · have c : nI sc.2.1 < nI (((lg p).flatMap encP ++ tn p).length + 14 + tp.length + 14 * (cnt (isA pr p) 32 + t)) := c
      rw [nI_ltI (by omega) (by omega)] at c
      refine gs_k (nI 0) 56 a_X4_logHasRoom_55 (by decide +kernel) rfl ?_
      refine gs_iret a_X4_logHasRoom_56 rfl rfl ?_
      rw [decide_eq_false (by omega)]
      rfl
    · have c : ¬ nI sc.2.1 < nI (((lg p).flatMap encP ++ tn p).length + 14 + tp.length + 14 * (cnt (isA pr p) 32 + t)) := c
      rw [nI_ltI (by omega) (by omega)] at c
      refine gs_k (nI 1) 52 a_X4_logHasRoom_51 (by decide +kernel) rfl ?_
      refine gs_n 56 a_X4_logHasRoom_52 rfl ?_
      refine gs_iret a_X4_logHasRoom_56 rfl rfl ?_
      rw [decide_eq_true (by omega)]
      rfl
  refine ev_of q_X4_logHasRoom (Nat.le_of_ble_eq_true rfl) ?_
  refine gs_n 1 a_X4_logHasRoom_0 rfl ?_
  refine gs_n 2 a_X4_logHasRoom_1 rfl ?_
  refine gs_cv 5 a_X4_logHasRoom_2 k_4_192 q_X4_openThatAdded (e_openA p w0) rfl rfl rfl (by simp [Value.category]) (by first | assumption | exact hs_same _ _ _ | exact (hs_ne _ _ (by first | assumption | decide | omega)).trans (by first | assumption | exact hs_same _ _ _ | exact (hs_ne _ _ (by first | assumption | decide | omega)).trans (by first | assumption | exact hs_same _ _ _ | exact (hs_ne _ _ (by first | assumption | decide | omega)).trans (by first | assumption | exact hs_same _ _ _ | exact (hs_ne _ _ (by first | assumption | decide | omega)).trans (by first | assumption | exact hs_same _ _ _))))) rfl (fun v h1 hp => ?_)
  cases hp
  refine gs_n 6 a_X4_logHasRoom_5 rfl ?_
  refine gs_if 13 9 a_X4_logHasRoom_6 rfl rfl (fun c => ?_) (fun c => ?_)
  · have c := (b01_0 _).mp c
    refine gs_k (nI 0) 14 a_X4_logHasRoom_13 (by decide +kernel) rfl ?_
    refine gs_w [(0, .ref 0), (1, .int (nI p))] (by simp [ix_nd]) (by intro x hx; simp only [List.mem_cons, List.not_mem_nil, or_false] at hx; rcases hx with rfl | rfl <;> rfl) ?_
    exact fin 0 (by rw [c]; rfl)
  · have c := (b01_ne _).mp c
    refine gs_k (nI 1) 10 a_X4_logHasRoom_9 (by decide +kernel) rfl ?_
    refine gs_n 14 a_X4_logHasRoom_10 rfl ?_
    refine gs_w [(0, .ref 0), (1, .int (nI p))] (by simp [ix_nd]) (by intro x hx; simp only [List.mem_cons, List.not_mem_nil, or_false] at hx; rcases hx with rfl | rfl <;> rfl) ?_
    exact fin 1 (by rw [c]; rfl)
theorem e_setMark (a : Nat) (v : Int32) (ha : a < 64) (w : CW h sc lg tn bk bt un pr mk tp an) : ev (d + 1) n_X4_setMark [.ref 0, .int (nI a), .int v] h (fun u => u.1 = none ∧ Fr [15] h u.2 ∧ CW u.2 sc lg tn bk bt un pr (upd mk a v) tp an) := by
  have w0 := w
  obtain ⟨w1, w2, w3, w4, w5, ⟨f6, w6, w6'⟩, w7, w8, ⟨f9, w9, w9'⟩, ⟨f10, w10, w10'⟩, w11, w12, w13⟩ := w
  unfold ocell at w1
  refine ev_of q_X4_setMark (Nat.le_of_ble_eq_true rfl) ?_
  refine gs_n 1 a_X4_setMark_0 rfl ?_
  refine gs_if 20 4 a_X4_setMark_1 rfl rfl (fun c => ?_) (fun c => ?_)
  · exact absurd c (nI_pos (by omega))
  · refine gs_n 5 a_X4_setMark_4 rfl ?_
    refine gs_n 6 a_X4_setMark_5 rfl ?_
    refine gs_get 9 a_X4_setMark_6 f_4_46 (by first | assumption | exact hs_same _ _ _ | exact (hs_ne _ _ (by first | assumption | decide | omega)).trans (by first | assumption | exact hs_same _ _ _ | exact (hs_ne _ _ (by first | assumption | decide | omega)).trans (by first | assumption | exact hs_same _ _ _ | exact (hs_ne _ _ (by first | assumption | decide | omega)).trans (by first | assumption | exact hs_same _ _ _ | exact (hs_ne _ _ (by first | assumption | decide | omega)).trans (by first | assumption | exact hs_same _ _ _))))) rfl rfl ?_
    refine gs_al 10 a_X4_setMark_9 (by first | assumption | exact hs_same _ _ _ | exact (hs_ne _ _ (by first | assumption | decide | omega)).trans (by first | assumption | exact hs_same _ _ _ | exact (hs_ne _ _ (by first | assumption | decide | omega)).trans (by first | assumption | exact hs_same _ _ _ | exact (hs_ne _ _ (by first | assumption | decide | omega)).trans (by first | assumption | exact hs_same _ _ _ | exact (hs_ne _ _ (by first | assumption | decide | omega)).trans (by first | assumption | exact hs_same _ _ _))))) (by simp) rfl ?_
    refine gs_ic 20 13 a_X4_setMark_10 rfl rfl (fun c2 => ?_) (fun c2 => ?_)
    · have c2 : nI 64 ≤ nI a := c2
      rw [nI_leI (by omega) (by omega)] at c2
      omega
    · refine gs_n 14 a_X4_setMark_13 rfl ?_
      refine gs_get 17 a_X4_setMark_14 f_4_46 (by first | assumption | exact hs_same _ _ _ | exact (hs_ne _ _ (by first | assumption | decide | omega)).trans (by first | assumption | exact hs_same _ _ _ | exact (hs_ne _ _ (by first | assumption | decide | omega)).trans (by first | assumption | exact hs_same _ _ _ | exact (hs_ne _ _ (by first | assumption | decide | omega)).trans (by first | assumption | exact hs_same _ _ _ | exact (hs_ne _ _ (by first | assumption | decide | omega)).trans (by first | assumption | exact hs_same _ _ _))))) rfl rfl ?_
      refine gs_n 18 a_X4_setMark_17 rfl ?_
      refine gs_n 19 a_X4_setMark_18 rfl ?_
      refine gs_is a 20 a_X4_setMark_19 (by first | assumption | exact hs_same _ _ _ | exact (hs_ne _ _ (by first | assumption | decide | omega)).trans (by first | assumption | exact hs_same _ _ _ | exact (hs_ne _ _ (by first | assumption | decide | omega)).trans (by first | assumption | exact hs_same _ _ _ | exact (hs_ne _ _ (by first | assumption | decide | omega)).trans (by first | assumption | exact hs_same _ _ _ | exact (hs_ne _ _ (by first | assumption | decide | omega)).trans (by first | assumption | exact hs_same _ _ _))))) rfl (by omega) (by omega) rfl ?_
      refine gs_vret a_X4_setMark_20 rfl ?_
      refine ⟨rfl, Fr.set _ (by simp), w0.marks (Fr.set _ (by simp)) ⟨_, hs_same _ _ _, ?_⟩⟩
      intro i hi
      by_cases e : i = a
      · subst e; rw [pk_us, pk_us]
      · rw [pk_un e, pk_un e]; exact w10' i hi
end SM2
