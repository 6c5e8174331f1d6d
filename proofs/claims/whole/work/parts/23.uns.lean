/-! Unsynced -/
def tot (l : List (Nat × Nat)) : Nat := (l.map (fun x => x.2)).sum
def totOf (l : List (Nat × Nat)) (k : Nat) : Nat := ((l.filter (fun x => x.1 == k)).map (fun x => x.2)).sum
theorem tot_snoc (l : List (Nat × Nat)) (x : Nat × Nat) : tot (l ++ [x]) = tot l + x.2 := by simp [tot]
theorem totOf_snoc (l : List (Nat × Nat)) (x : Nat × Nat) (k : Nat) : totOf (l ++ [x]) k = totOf l k + if x.1 = k then x.2 else 0 := by
  unfold totOf
  rw [List.filter_append, List.map_append, List.sum_append]
  by_cases h : x.1 = k
  · simp [h]
  · simp [h]
theorem tot_le {l : List (Nat × Nat)} {B : Nat} (h : ∀ x ∈ l, x.2 ≤ B) : tot l ≤ l.length * B := by
  induction l with
  | nil => simp [tot]
  | cons a l ih =>
    have h1 := ih (fun x hx => h x (List.mem_cons_of_mem _ hx))
    have h2 := h a List.mem_cons_self
    simp only [tot, List.map_cons, List.sum_cons, List.length_cons] at h1 ⊢
    rw [Nat.add_mul, Nat.one_mul]
    omega
theorem totOf_le (l : List (Nat × Nat)) (k : Nat) : totOf l k ≤ tot l := by
  induction l with
  | nil => simp [tot, totOf]
  | cons a l ih =>
    simp only [tot, totOf, List.map_cons, List.sum_cons] at ih ⊢
    by_cases h : a.1 = k
    · simp [List.filter_cons, h]; omega
    · simp [List.filter_cons, h]; omega
/-- what came since the latest sync: pieces (file, size) -/
def UnsAt (h : ix_H) (u : Nat) (l : List (Nat × Nat)) : Prop :=
  h.2.2 u = .inr (3, [.ref (u + 1), .ref (u + 2), .ref (u + 3), .int (nI l.length), .int (nI (tot l))]) ∧
  (∃ f, h.2.2 (u + 1) = .inl (.int, 3280, .inl f) ∧ ∀ i, i < l.length → f i = nI (l.getD i (0, 0)).1) ∧
  (∃ f, h.2.2 (u + 2) = .inl (.int, 3280, .inl f) ∧ ∀ i, i < l.length → f i = nI (l.getD i (0, 0)).2) ∧
  (∃ f, h.2.2 (u + 3) = .inl (.int, 9, .inl f) ∧ ∀ k, k < 9 → f k = nI (totOf l k)) ∧
  (∀ x ∈ l, x.1 < 9 ∧ x.2 ≤ 100) ∧ l.length ≤ 3280
theorem e_uclear {d : Nat} {h : ix_H} {u : Nat} {l : List (Nat × Nat)} (hu : UnsAt h u l) : ev (d + 2) n_X3_clear [.ref u] h (fun o => o.1 = none ∧ Fr [u, u + 3] h o.2 ∧ UnsAt o.2 u []) := by
  obtain ⟨h1, ⟨f1, h2, h3⟩, ⟨f2, h4, h5⟩, ⟨f3, h6, h7⟩, h8, h9⟩ := hu
  have n3 : ¬ u + 3 = u := by omega
  refine ev_of q_X3_clear (Nat.le_of_ble_eq_true rfl) ?_
  refine gs_n 1 a_X3_clear_0 rfl ?_
  refine gs_k (nI 0) 2 a_X3_clear_1 (by decide +kernel) rfl ?_
  refine gs_put 5 _ a_X3_clear_2 f_3_21 (by first | assumption | exact hs_same _ _ _ | exact (hs_ne _ _ (by first | assumption | decide | omega)).trans (by first | assumption | exact hs_same _ _ _ | exact (hs_ne _ _ (by first | assumption | decide | omega)).trans (by first | assumption | exact hs_same _ _ _ | exact (hs_ne _ _ (by first | assumption | decide | omega)).trans (by first | assumption | exact hs_same _ _ _ | exact (hs_ne _ _ (by first | assumption | decide | omega)).trans (by first | assumption | exact hs_same _ _ _))))) (Nat.le_of_ble_eq_true rfl) rfl (fun z => absurd z (by decide)) rfl rfl ?_
  refine gs_n 6 a_X3_clear_5 rfl ?_
  refine gs_k (nI 0) 7 a_X3_clear_6 (by decide +kernel) rfl ?_
  refine gs_put 10 _ a_X3_clear_7 f_3_25 (by first | assumption | exact hs_same _ _ _ | exact (hs_ne _ _ (by first | assumption | decide | omega)).trans (by first | assumption | exact hs_same _ _ _ | exact (hs_ne _ _ (by first | assumption | decide | omega)).trans (by first | assumption | exact hs_same _ _ _ | exact (hs_ne _ _ (by first | assumption | decide | omega)).trans (by first | assumption | exact hs_same _ _ _ | exact (hs_ne _ _ (by first | assumption | decide | omega)).trans (by first | assumption | exact hs_same _ _ _))))) (Nat.le_of_ble_eq_true rfl) rfl (fun z => absurd z (by decide)) rfl rfl ?_
  refine gs_n 11 a_X3_clear_10 rfl ?_
  refine gs_get 14 a_X3_clear_11 f_3_18 (by first | assumption | exact hs_same _ _ _ | exact (hs_ne _ _ (by first | assumption | decide | omega)).trans (by first | assumption | exact hs_same _ _ _ | exact (hs_ne _ _ (by first | assumption | decide | omega)).trans (by first | assumption | exact hs_same _ _ _ | exact (hs_ne _ _ (by first | assumption | decide | omega)).trans (by first | assumption | exact hs_same _ _ _ | exact (hs_ne _ _ (by first | assumption | decide | omega)).trans (by first | assumption | exact hs_same _ _ _))))) rfl rfl ?_
  refine gs_k (nI 0) 15 a_X3_clear_14 (by decide +kernel) rfl ?_
  refine gs_cs 18 a_X3_clear_15 k_3_28 q_J7_fill_53178 (e_fill (nI 0) (by decide) ((hs_ne _ _ n3).trans ((hs_ne _ _ n3).trans h6))) rfl rfl rfl (by simp [Value.category]) rfl (fun v h1 hp => ?_)
  obtain ⟨e1, hF, g, hg1, hg2⟩ := hp
  subst e1
  refine gs_vret a_X3_clear_18 rfl ?_
  refine ⟨rfl, ((Fr.set _ (by simp)).trans (Fr.set _ (by simp))).trans (hF.mono (by simp)), ⟨?_, ⟨f1, ?_, ?_⟩, ⟨f2, ?_, ?_⟩, ⟨g, hg1, ?_⟩, ?_, ?_⟩⟩
  · rw [hF.2.2 u (by simp), hs_same]; rfl
  · rw [hF.2.2 (u + 1) (by simp), hs_ne _ _ (by omega), hs_ne _ _ (by omega)]; exact h2
  · intro i hi; simp at hi
  · rw [hF.2.2 (u + 2) (by simp), hs_ne _ _ (by omega), hs_ne _ _ (by omega)]; exact h4
  · intro i hi; simp at hi
  · intro k hk; rw [hg2 k hk]; rfl
  · simp
  · simp
theorem e_note {d : Nat} {h : ix_H} {u : Nat} {l : List (Nat × Nat)} (p n : Nat) (hp : p < 9) (hn : n ≤ 100) (hl : l.length < 3280) (hu : UnsAt h u l) : ev (d + 1) n_X3_note [.ref u, .int (nI p), .int (nI n)] h (fun o => o.1 = none ∧ Fr [u, u + 1, u + 2, u + 3] h o.2 ∧ UnsAt o.2 u (l ++ [(p, n)])) := by
  obtain ⟨h1, ⟨f1, h2, h3⟩, ⟨f2, h4, h5⟩, ⟨f3, h6, h7⟩, h8, h9⟩ := hu
  have a1 : ¬ u = u + 1 := by omega
  have a2 : ¬ u = u + 2 := by omega
  have a3 : ¬ u = u + 3 := by omega
  have a4 : ¬ u + 1 = u := by omega
  have a5 : ¬ u + 2 = u := by omega
  have a6 : ¬ u + 3 = u := by omega
  have a7 : ¬ u + 2 = u + 1 := by omega
  have a8 : ¬ u + 3 = u + 1 := by omega
  have a9 : ¬ u + 3 = u + 2 := by omega
  have b1 : ¬ u + 1 = u + 2 := by omega
  have b2 : ¬ u + 1 = u + 3 := by omega
  have b3 : ¬ u + 2 = u + 3 := by omega
  refine ev_of q_X3_note (Nat.le_of_ble_eq_true rfl) ?_
  refine gs_n 1 a_X3_note_0 rfl ?_
  refine gs_get 4 a_X3_note_1 f_3_21 (by first | assumption | exact hs_same _ _ _ | exact (hs_ne _ _ (by first | assumption | decide | omega)).trans (by first | assumption | exact hs_same _ _ _ | exact (hs_ne _ _ (by first | assumption | decide | omega)).trans (by first | assumption | exact hs_same _ _ _ | exact (hs_ne _ _ (by first | assumption | decide | omega)).trans (by first | assumption | exact hs_same _ _ _ | exact (hs_ne _ _ (by first | assumption | decide | omega)).trans (by first | assumption | exact hs_same _ _ _))))) rfl rfl ?_
  refine gs_k (nI 3280) 7 a_X3_note_4 (by decide +kernel) rfl ?_
  refine gs_ic 73 10 a_X3_note_7 rfl rfl (fun c1 => ?_) (fun c1 => ?_)
  · have c1 : nI 3280 ≤ nI l.length := c1
    rw [nI_leI (by omega) (by omega)] at c1
    omega
  · refine gs_n 11 a_X3_note_10 rfl ?_
    refine gs_if 73 14 a_X3_note_11 rfl rfl (fun c2 => ?_) (fun c2 => ?_)
    · exact absurd c2 (nI_pos (by omega))
    · refine gs_n 15 a_X3_note_14 rfl ?_
      refine gs_n 16 a_X3_note_15 rfl ?_
      refine gs_get 19 a_X3_note_16 f_3_18 (by first | assumption | exact hs_same _ _ _ | exact (hs_ne _ _ (by first | assumption | decide | omega)).trans (by first | assumption | exact hs_same _ _ _ | exact (hs_ne _ _ (by first | assumption | decide | omega)).trans (by first | assumption | exact hs_same _ _ _ | exact (hs_ne _ _ (by first | assumption | decide | omega)).trans (by first | assumption | exact hs_same _ _ _ | exact (hs_ne _ _ (by first | assumption | decide | omega)).trans (by first | assumption | exact hs_same _ _ _))))) rfl rfl ?_
      refine gs_al 20 a_X3_note_19 (by first | assumption | exact hs_same _ _ _ | exact (hs_ne _ _ (by first | assumption | decide | omega)).trans (by first | assumption | exact hs_same _ _ _ | exact (hs_ne _ _ (by first | assumption | decide | omega)).trans (by first | assumption | exact hs_same _ _ _ | exact (hs_ne _ _ (by first | assumption | decide | omega)).trans (by first | assumption | exact hs_same _ _ _ | exact (hs_ne _ _ (by first | assumption | decide | omega)).trans (by first | assumption | exact hs_same _ _ _))))) (by simp) rfl ?_
      refine gs_ic 73 23 a_X3_note_20 rfl rfl (fun c3 => ?_) (fun c3 => ?_)
      · have c3 : nI 9 ≤ nI p := c3
        rw [nI_leI (by omega) (by omega)] at c3
        omega
      · refine gs_n 24 a_X3_note_23 rfl ?_
        refine gs_get 27 a_X3_note_24 f_3_9 (by first | assumption | exact hs_same _ _ _ | exact (hs_ne _ _ (by first | assumption | decide | omega)).trans (by first | assumption | exact hs_same _ _ _ | exact (hs_ne _ _ (by first | assumption | decide | omega)).trans (by first | assumption | exact hs_same _ _ _ | exact (hs_ne _ _ (by first | assumption | decide | omega)).trans (by first | assumption | exact hs_same _ _ _ | exact (hs_ne _ _ (by first | assumption | decide | omega)).trans (by first | assumption | exact hs_same _ _ _))))) rfl rfl ?_
        refine gs_n 28 a_X3_note_27 rfl ?_
        refine gs_get 31 a_X3_note_28 f_3_21 (by first | assumption | exact hs_same _ _ _ | exact (hs_ne _ _ (by first | assumption | decide | omega)).trans (by first | assumption | exact hs_same _ _ _ | exact (hs_ne _ _ (by first | assumption | decide | omega)).trans (by first | assumption | exact hs_same _ _ _ | exact (hs_ne _ _ (by first | assumption | decide | omega)).trans (by first | assumption | exact hs_same _ _ _ | exact (hs_ne _ _ (by first | assumption | decide | omega)).trans (by first | assumption | exact hs_same _ _ _))))) rfl rfl ?_
        refine gs_n 32 a_X3_note_31 rfl ?_
        refine gs_is l.length 33 a_X3_note_32 (by first | assumption | exact hs_same _ _ _ | exact (hs_ne _ _ (by first | assumption | decide | omega)).trans (by first | assumption | exact hs_same _ _ _ | exact (hs_ne _ _ (by first | assumption | decide | omega)).trans (by first | assumption | exact hs_same _ _ _ | exact (hs_ne _ _ (by first | assumption | decide | omega)).trans (by first | assumption | exact hs_same _ _ _ | exact (hs_ne _ _ (by first | assumption | decide | omega)).trans (by first | assumption | exact hs_same _ _ _))))) rfl (by omega) (by omega) rfl ?_
        refine gs_n 34 a_X3_note_33 rfl ?_
        refine gs_get 37 a_X3_note_34 f_3_15 (by first | assumption | exact hs_same _ _ _ | exact (hs_ne _ _ (by first | assumption | decide | omega)).trans (by first | assumption | exact hs_same _ _ _ | exact (hs_ne _ _ (by first | assumption | decide | omega)).trans (by first | assumption | exact hs_same _ _ _ | exact (hs_ne _ _ (by first | assumption | decide | omega)).trans (by first | assumption | exact hs_same _ _ _ | exact (hs_ne _ _ (by first | assumption | decide | omega)).trans (by first | assumption | exact hs_same _ _ _))))) rfl rfl ?_
        refine gs_n 38 a_X3_note_37 rfl ?_
        refine gs_get 41 a_X3_note_38 f_3_21 (by first | assumption | exact hs_same _ _ _ | exact (hs_ne _ _ (by first | assumption | decide | omega)).trans (by first | assumption | exact hs_same _ _ _ | exact (hs_ne _ _ (by first | assumption | decide | omega)).trans (by first | assumption | exact hs_same _ _ _ | exact (hs_ne _ _ (by first | assumption | decide | omega)).trans (by first | assumption | exact hs_same _ _ _ | exact (hs_ne _ _ (by first | assumption | decide | omega)).trans (by first | assumption | exact hs_same _ _ _))))) rfl rfl ?_
        refine gs_n 42 a_X3_note_41 rfl ?_
        refine gs_is l.length 43 a_X3_note_42 (by first | assumption | exact hs_same _ _ _ | exact (hs_ne _ _ (by first | assumption | decide | omega)).trans (by first | assumption | exact hs_same _ _ _ | exact (hs_ne _ _ (by first | assumption | decide | omega)).trans (by first | assumption | exact hs_same _ _ _ | exact (hs_ne _ _ (by first | assumption | decide | omega)).trans (by first | assumption | exact hs_same _ _ _ | exact (hs_ne _ _ (by first | assumption | decide | omega)).trans (by first | assumption | exact hs_same _ _ _))))) rfl (by omega) (by omega) rfl ?_
        refine gs_n 44 a_X3_note_43 rfl ?_
        refine gs_n 45 a_X3_note_44 rfl ?_
        refine gs_get 48 a_X3_note_45 f_3_21 (by first | assumption | exact hs_same _ _ _ | exact (hs_ne _ _ (by first | assumption | decide | omega)).trans (by first | assumption | exact hs_same _ _ _ | exact (hs_ne _ _ (by first | assumption | decide | omega)).trans (by first | assumption | exact hs_same _ _ _ | exact (hs_ne _ _ (by first | assumption | decide | omega)).trans (by first | assumption | exact hs_same _ _ _ | exact (hs_ne _ _ (by first | assumption | decide | omega)).trans (by first | assumption | exact hs_same _ _ _))))) rfl rfl ?_
        refine gs_k (nI 1) 49 a_X3_note_48 (by decide +kernel) rfl ?_
        refine gs_n 50 a_X3_note_49 rfl ?_
        refine gs_put 53 _ a_X3_note_50 f_3_21 (by first | assumption | exact hs_same _ _ _ | exact (hs_ne _ _ (by first | assumption | decide | omega)).trans (by first | assumption | exact hs_same _ _ _ | exact (hs_ne _ _ (by first | assumption | decide | omega)).trans (by first | assumption | exact hs_same _ _ _ | exact (hs_ne _ _ (by first | assumption | decide | omega)).trans (by first | assumption | exact hs_same _ _ _ | exact (hs_ne _ _ (by first | assumption | decide | omega)).trans (by first | assumption | exact hs_same _ _ _))))) (Nat.le_of_ble_eq_true rfl) rfl (fun z => absurd z (by decide)) rfl rfl ?_
        refine gs_n 54 a_X3_note_53 rfl ?_
        refine gs_n 55 a_X3_note_54 rfl ?_
        refine gs_get 58 a_X3_note_55 f_3_25 (by first | assumption | exact hs_same _ _ _ | exact (hs_ne _ _ (by first | assumption | decide | omega)).trans (by first | assumption | exact hs_same _ _ _ | exact (hs_ne _ _ (by first | assumption | decide | omega)).trans (by first | assumption | exact hs_same _ _ _ | exact (hs_ne _ _ (by first | assumption | decide | omega)).trans (by first | assumption | exact hs_same _ _ _ | exact (hs_ne _ _ (by first | assumption | decide | omega)).trans (by first | assumption | exact hs_same _ _ _))))) rfl rfl ?_
        refine gs_n 59 a_X3_note_58 rfl ?_
        refine gs_n 60 a_X3_note_59 rfl ?_
        refine gs_put 63 _ a_X3_note_60 f_3_25 (by first | assumption | exact hs_same _ _ _ | exact (hs_ne _ _ (by first | assumption | decide | omega)).trans (by first | assumption | exact hs_same _ _ _ | exact (hs_ne _ _ (by first | assumption | decide | omega)).trans (by first | assumption | exact hs_same _ _ _ | exact (hs_ne _ _ (by first | assumption | decide | omega)).trans (by first | assumption | exact hs_same _ _ _ | exact (hs_ne _ _ (by first | assumption | decide | omega)).trans (by first | assumption | exact hs_same _ _ _))))) (Nat.le_of_ble_eq_true rfl) rfl (fun z => absurd z (by decide)) rfl rfl ?_
        refine gs_n 64 a_X3_note_63 rfl ?_
        refine gs_get 67 a_X3_note_64 f_3_18 (by first | assumption | exact hs_same _ _ _ | exact (hs_ne _ _ (by first | assumption | decide | omega)).trans (by first | assumption | exact hs_same _ _ _ | exact (hs_ne _ _ (by first | assumption | decide | omega)).trans (by first | assumption | exact hs_same _ _ _ | exact (hs_ne _ _ (by first | assumption | decide | omega)).trans (by first | assumption | exact hs_same _ _ _ | exact (hs_ne _ _ (by first | assumption | decide | omega)).trans (by first | assumption | exact hs_same _ _ _))))) rfl rfl ?_
        refine gs_n 68 a_X3_note_67 rfl ?_
        refine gs_n 69 a_X3_note_68 rfl ?_
        refine gs_ia p 70 a_X3_note_69 (by first | assumption | exact hs_same _ _ _ | exact (hs_ne _ _ (by first | assumption | decide | omega)).trans (by first | assumption | exact hs_same _ _ _ | exact (hs_ne _ _ (by first | assumption | decide | omega)).trans (by first | assumption | exact hs_same _ _ _ | exact (hs_ne _ _ (by first | assumption | decide | omega)).trans (by first | assumption | exact hs_same _ _ _ | exact (hs_ne _ _ (by first | assumption | decide | omega)).trans (by first | assumption | exact hs_same _ _ _))))) rfl (by omega) (by omega) rfl ?_
        refine gs_n 71 a_X3_note_70 rfl ?_
        refine gs_n 72 a_X3_note_71 rfl ?_
        refine gs_is p 73 a_X3_note_72 (by first | assumption | exact hs_same _ _ _ | exact (hs_ne _ _ (by first | assumption | decide | omega)).trans (by first | assumption | exact hs_same _ _ _ | exact (hs_ne _ _ (by first | assumption | decide | omega)).trans (by first | assumption | exact hs_same _ _ _ | exact (hs_ne _ _ (by first | assumption | decide | omega)).trans (by first | assumption | exact hs_same _ _ _ | exact (hs_ne _ _ (by first | assumption | decide | omega)).trans (by first | assumption | exact hs_same _ _ _))))) rfl (by omega) (by omega) rfl ?_
        refine gs_vret a_X3_note_73 rfl ?_
        have hsp : ∀ x ∈ [u, u + 1, u + 2, u + 3], x ∈ [u, u + 1, u + 2, u + 3] := fun _ h => h
        refine ⟨rfl, ((((Fr.set _ (by simp)).trans (Fr.set _ (by simp))).trans (Fr.set _ (by simp))).trans (Fr.set _ (by simp))).trans (Fr.set _ (by simp)), ⟨?_, ⟨upd f1 l.length (nI p), ?_, ?_⟩, ⟨upd f2 l.length (nI n), ?_, ?_⟩, ⟨_, hs_same _ _ _, ?_⟩, ?_, ?_⟩⟩
        · rw [hs_ne _ _ a3, hs_same]
          show (Sum.inr (3, [Value.ref (u + 1), .ref (u + 2), .ref (u + 3), .int (nI l.length + nI 1), .int (nI (tot l) + nI n)]) : ix_E) = _
          rw [nI_add, nI_add, tot_snoc, List.length_append]
          rfl
        · rw [hs_ne _ _ b2, hs_ne _ _ a4, hs_ne _ _ a4, hs_ne _ _ b1, hs_same]
        · intro i hi
          rw [List.length_append] at hi
          by_cases e : i = l.length
          · subst e; rw [pk_us]; simp [List.getD]
          · have hi2 : i < l.length := by simp at hi; omega
            rw [pk_un e, h3 i hi2]
            simp [List.getD, List.getElem?_append_left hi2]
        · rw [hs_ne _ _ b3, hs_ne _ _ a5, hs_ne _ _ a5, hs_same]
        · intro i hi
          rw [List.length_append] at hi
          by_cases e : i = l.length
          · subst e; rw [pk_us]; simp [List.getD]
          · have hi2 : i < l.length := by simp at hi; omega
            rw [pk_un e, h5 i hi2]
            simp [List.getD, List.getElem?_append_left hi2]
        · intro k hk
          rw [totOf_snoc]
          by_cases e : k = p
          · subst e; rw [pk_us, h7 k hk, nI_add]; simp
          · rw [pk_un e, h7 k hk, if_neg (fun z => e z.symm)]; rfl
        · intro x hx
          rcases List.mem_append.mp hx with z | z
          · exact h8 x z
          · rw [List.mem_singleton.mp z]; exact ⟨hp, hn⟩
        · simp; omega
theorem e_bytesOf {d : Nat} {h : ix_H} {u : Nat} {l : List (Nat × Nat)} (p : Nat) (hp : p < 9) (hu : UnsAt h u l) : ev (d + 1) n_X3_bytesOf [.ref u, .int (nI p)] h (fun o => o = (some (.int (nI (totOf l p))), h)) := by
  obtain ⟨h1, ⟨f1, h2, h3⟩, ⟨f2, h4, h5⟩, ⟨f3, h6, h7⟩, h8, h9⟩ := hu
  refine ev_of q_X3_bytesOf (Nat.le_of_ble_eq_true rfl) ?_
  refine gs_n 1 a_X3_bytesOf_0 rfl ?_
  refine gs_if 22 4 a_X3_bytesOf_1 rfl rfl (fun c => ?_) (fun c => ?_)
  · exact absurd c (nI_pos (by omega))
  · refine gs_n 5 a_X3_bytesOf_4 rfl ?_
    refine gs_n 6 a_X3_bytesOf_5 rfl ?_
    refine gs_get 9 a_X3_bytesOf_6 f_3_18 (by first | assumption | exact hs_same _ _ _ | exact (hs_ne _ _ (by first | assumption | decide | omega)).trans (by first | assumption | exact hs_same _ _ _ | exact (hs_ne _ _ (by first | assumption | decide | omega)).trans (by first | assumption | exact hs_same _ _ _ | exact (hs_ne _ _ (by first | assumption | decide | omega)).trans (by first | assumption | exact hs_same _ _ _ | exact (hs_ne _ _ (by first | assumption | decide | omega)).trans (by first | assumption | exact hs_same _ _ _))))) rfl rfl ?_
    refine gs_al 10 a_X3_bytesOf_9 (by first | assumption | exact hs_same _ _ _ | exact (hs_ne _ _ (by first | assumption | decide | omega)).trans (by first | assumption | exact hs_same _ _ _ | exact (hs_ne _ _ (by first | assumption | decide | omega)).trans (by first | assumption | exact hs_same _ _ _ | exact (hs_ne _ _ (by first | assumption | decide | omega)).trans (by first | assumption | exact hs_same _ _ _ | exact (hs_ne _ _ (by first | assumption | decide | omega)).trans (by first | assumption | exact hs_same _ _ _))))) (by simp) rfl ?_
    refine gs_ic 22 13 a_X3_bytesOf_10 rfl rfl (fun c2 => ?_) (fun c2 => ?_)
    · have c2 : nI 9 ≤ nI p := c2
      rw [nI_leI (by omega) (by omega)] at c2
      omega
    · refine gs_n 14 a_X3_bytesOf_13 rfl ?_
      refine gs_get 17 a_X3_bytesOf_14 f_3_18 (by first | assumption | exact hs_same _ _ _ | exact (hs_ne _ _ (by first | assumption | decide | omega)).trans (by first | assumption | exact hs_same _ _ _ | exact (hs_ne _ _ (by first | assumption | decide | omega)).trans (by first | assumption | exact hs_same _ _ _ | exact (hs_ne _ _ (by first | assumption | decide | omega)).trans (by first | assumption | exact hs_same _ _ _ | exact (hs_ne _ _ (by first | assumption | decide | omega)).trans (by first | assumption | exact hs_same _ _ _))))) rfl rfl ?_
      refine gs_n 18 a_X3_bytesOf_17 rfl ?_
      refine gs_ia p 19 a_X3_bytesOf_18 (by first | assumption | exact hs_same _ _ _ | exact (hs_ne _ _ (by first | assumption | decide | omega)).trans (by first | assumption | exact hs_same _ _ _ | exact (hs_ne _ _ (by first | assumption | decide | omega)).trans (by first | assumption | exact hs_same _ _ _ | exact (hs_ne _ _ (by first | assumption | decide | omega)).trans (by first | assumption | exact hs_same _ _ _ | exact (hs_ne _ _ (by first | assumption | decide | omega)).trans (by first | assumption | exact hs_same _ _ _))))) rfl (by omega) (by omega) rfl ?_
      refine gs_n 23 a_X3_bytesOf_19 rfl ?_
      refine gs_iret a_X3_bytesOf_23 rfl rfl ?_
      rw [h7 p hp]
/-- of a file, how much of the first m bytes -/
def kp : List (Nat × Nat) → Nat → Nat → Nat
  | [], _, _ => 0
  | (g, s) :: r, f, m => if m = 0 then 0 else (if g = f then min s m else 0) + kp r f (m - min s m)
theorem l_keptOf {d : Nat} {h : ix_H} {u : Nat} {l : List (Nat × Nat)} (p : Nat) (hp : p < 9) (hu : UnsAt h u l) : ∀ (k j acc m : Nat), j + k = l.length → acc ≤ j * 100 → m < 2 ^ 31 →
    gs none d mD_X3_keptOf (8, [(5, .int (nI j)), (4, .int (nI acc)), (3, .int (nI m)), (0, .ref u), (1, .int (nI p))], [], h) (fun o => o = (some (.int (nI (acc + kp (l.drop j) p m))), h)) := by
  obtain ⟨h1, ⟨f1, h2, h3⟩, ⟨f2, h4, h5⟩, ⟨f3, h6, h7⟩, h8, h9⟩ := hu
  intro k
  induction k with
  | zero =>
    intro j acc m hj ha hm
    refine gs_n 10 a_X3_keptOf_8 rfl ?_
    refine gs_n 11 a_X3_keptOf_10 rfl ?_
    refine gs_get 14 a_X3_keptOf_11 f_3_21 (by first | assumption | exact hs_same _ _ _ | exact (hs_ne _ _ (by first | assumption | decide | omega)).trans (by first | assumption | exact hs_same _ _ _ | exact (hs_ne _ _ (by first | assumption | decide | omega)).trans (by first | assumption | exact hs_same _ _ _ | exact (hs_ne _ _ (by first | assumption | decide | omega)).trans (by first | assumption | exact hs_same _ _ _ | exact (hs_ne _ _ (by first | assumption | decide | omega)).trans (by first | assumption | exact hs_same _ _ _))))) rfl rfl ?_
    refine gs_ic 67 17 a_X3_keptOf_14 rfl rfl (fun c => ?_) (fun c => ?_)
    · refine gs_n 69 a_X3_keptOf_67 rfl ?_
      refine gs_iret a_X3_keptOf_69 rfl rfl ?_
      rw [List.drop_of_length_le (by omega)]
      rfl
    · exact absurd (nI_le (by omega) (by omega)) c
  | succ k ih =>
    intro j acc m hj ha hm
    have hjl : j < l.length := by omega
    have hd : l.drop j = l.getD j (0, 0) :: l.drop (j + 1) := by
      rw [List.drop_eq_getElem_cons hjl]
      simp [List.getD, List.getElem?_eq_getElem hjl]
    have hmem : l.getD j (0, 0) ∈ l := by
      simp only [List.getD, List.getElem?_eq_getElem hjl, Option.getD_some]
      exact List.getElem_mem _
    obtain ⟨g1, g2⟩ := h8 _ hmem
    rw [hd]
    generalize hx : l.getD j (0, 0) = x at g1 g2
    obtain ⟨g, s⟩ := x
    simp only at g1 g2
    refine gs_n 10 a_X3_keptOf_8 rfl ?_
    refine gs_n 11 a_X3_keptOf_10 rfl ?_
    refine gs_get 14 a_X3_keptOf_11 f_3_21 (by first | assumption | exact hs_same _ _ _ | exact (hs_ne _ _ (by first | assumption | decide | omega)).trans (by first | assumption | exact hs_same _ _ _ | exact (hs_ne _ _ (by first | assumption | decide | omega)).trans (by first | assumption | exact hs_same _ _ _ | exact (hs_ne _ _ (by first | assumption | decide | omega)).trans (by first | assumption | exact hs_same _ _ _ | exact (hs_ne _ _ (by first | assumption | decide | omega)).trans (by first | assumption | exact hs_same _ _ _))))) rfl rfl ?_
    refine gs_ic 67 17 a_X3_keptOf_14 rfl rfl (fun c => ?_) (fun c => ?_)
    · exact absurd c (nI_ge (by omega) (by omega))
    · refine gs_n 18 a_X3_keptOf_17 rfl ?_
      refine gs_if 67 21 a_X3_keptOf_18 rfl rfl (fun c2 => ?_) (fun c2 => ?_)
      · have c2 : nI m ≤ nI 0 := c2
        rw [nI_leI (by omega) (by omega)] at c2
        refine gs_n 69 a_X3_keptOf_67 rfl ?_
        refine gs_iret a_X3_keptOf_69 rfl rfl ?_
        simp [kp, show m = 0 by omega]
      · have c2 : ¬ nI m ≤ nI 0 := c2
        rw [nI_leI (by omega) (by omega)] at c2
        refine gs_n 22 a_X3_keptOf_21 rfl ?_
        refine gs_get 25 a_X3_keptOf_22 f_3_15 (by first | assumption | exact hs_same _ _ _ | exact (hs_ne _ _ (by first | assumption | decide | omega)).trans (by first | assumption | exact hs_same _ _ _ | exact (hs_ne _ _ (by first | assumption | decide | omega)).trans (by first | assumption | exact hs_same _ _ _ | exact (hs_ne _ _ (by first | assumption | decide | omega)).trans (by first | assumption | exact hs_same _ _ _ | exact (hs_ne _ _ (by first | assumption | decide | omega)).trans (by first | assumption | exact hs_same _ _ _))))) rfl rfl ?_
        refine gs_n 27 a_X3_keptOf_25 rfl ?_
        refine gs_ia j 28 a_X3_keptOf_27 (by first | assumption | exact hs_same _ _ _ | exact (hs_ne _ _ (by first | assumption | decide | omega)).trans (by first | assumption | exact hs_same _ _ _ | exact (hs_ne _ _ (by first | assumption | decide | omega)).trans (by first | assumption | exact hs_same _ _ _ | exact (hs_ne _ _ (by first | assumption | decide | omega)).trans (by first | assumption | exact hs_same _ _ _ | exact (hs_ne _ _ (by first | assumption | decide | omega)).trans (by first | assumption | exact hs_same _ _ _))))) rfl (by omega) (by omega) rfl ?_
        rw [h5 j hjl, hx]
        refine gs_n 29 a_X3_keptOf_28 rfl ?_
        refine gs_n 32 a_X3_keptOf_29 rfl ?_
        refine gs_top (nI (min s m)) ?_ ?_
        · by_cases e : m < s
          · rw [if_pos (by rw [nI_ltI (by omega) (by omega)]; exact e), Nat.min_eq_right (by omega)]
          · rw [if_neg (by rw [nI_ltI (by omega) (by omega)]; exact e), Nat.min_eq_left (by omega)]
        · refine gs_n 34 a_X3_keptOf_32 rfl ?_
          refine gs_n 36 a_X3_keptOf_34 rfl ?_
          refine gs_n 37 a_X3_keptOf_36 rfl ?_
          refine gs_get 40 a_X3_keptOf_37 f_3_9 (by first | assumption | exact hs_same _ _ _ | exact (hs_ne _ _ (by first | assumption | decide | omega)).trans (by first | assumption | exact hs_same _ _ _ | exact (hs_ne _ _ (by first | assumption | decide | omega)).trans (by first | assumption | exact hs_same _ _ _ | exact (hs_ne _ _ (by first | assumption | decide | omega)).trans (by first | assumption | exact hs_same _ _ _ | exact (hs_ne _ _ (by first | assumption | decide | omega)).trans (by first | assumption | exact hs_same _ _ _))))) rfl rfl ?_
          refine gs_n 42 a_X3_keptOf_40 rfl ?_
          refine gs_ia j 43 a_X3_keptOf_42 (by first | assumption | exact hs_same _ _ _ | exact (hs_ne _ _ (by first | assumption | decide | omega)).trans (by first | assumption | exact hs_same _ _ _ | exact (hs_ne _ _ (by first | assumption | decide | omega)).trans (by first | assumption | exact hs_same _ _ _ | exact (hs_ne _ _ (by first | assumption | decide | omega)).trans (by first | assumption | exact hs_same _ _ _ | exact (hs_ne _ _ (by first | assumption | decide | omega)).trans (by first | assumption | exact hs_same _ _ _))))) rfl (by omega) (by omega) rfl ?_
          rw [h3 j hjl, hx]
          refine gs_n 44 a_X3_keptOf_43 rfl ?_
          have fin : ∀ (t : Nat), t = (if g = p then min s m else 0) → gs none d mD_X3_keptOf (53, ix_put1 [(5, .int (nI j)), (4, .int (nI acc)), (3, .int (nI m)), (0, .ref u), (1, .int (nI p))] 6 (.int (nI (min s m))), [.int (nI t), .int (nI acc)], h) (fun o => o = (some (.int (nI (acc + kp ((g, s) :: l.drop (j + 1)) p m))), h)) := by
            intro t ht
            refine gs_n 54 a_X3_keptOf_53 rfl ?_
            refine gs_n 56 a_X3_keptOf_54 rfl ?_
            refine gs_n 57 a_X3_keptOf_56 rfl ?_
            refine gs_n 59 a_X3_keptOf_57 rfl ?_
            refine gs_n 60 a_X3_keptOf_59 rfl ?_
            refine gs_n 61 a_X3_keptOf_60 rfl ?_
            first | refine gs_inc _ 64 a_X3_keptOf_61 rfl (Nat.le_of_ble_eq_true rfl) rfl ?_ | refine gs_n 64 a_X3_keptOf_61 rfl ?_
            refine gs_n 8 a_X3_keptOf_64 rfl ?_
            refine gs_w [(5, .int (nI (j + 1))), (4, .int (nI acc + nI t)), (3, .int (nI m - nI (min s m))), (0, .ref u), (1, .int (nI p))] (by simp [ix_nd]) (by intro x hx; simp only [List.mem_cons, List.not_mem_nil, or_false] at hx; rcases hx with rfl | rfl | rfl | rfl | rfl <;> rfl) ?_
            rw [nI_add, pk_sub (by omega)]
            have h100 : t ≤ 100 := by rw [ht]; split <;> omega
            refine gs_post (ih (j + 1) (acc + t) (m - min s m) (by omega) (by omega) (by omega)) ?_
            rintro o rfl
            simp only [kp, show ¬ m = 0 by omega, if_false, ← ht]
            rw [Nat.add_assoc]
          refine gs_ic 52 47 a_X3_keptOf_44 rfl rfl (fun c3 => ?_) (fun c3 => ?_)
          · have c3 : ¬ nI g = nI p := c3
            rw [nI_eq (by omega) (by omega)] at c3
            refine gs_k (nI 0) 53 a_X3_keptOf_52 (by decide +kernel) rfl ?_
            exact fin 0 (by rw [if_neg c3])
          · have c3 : nI g = nI p := Classical.byContradiction c3
            rw [nI_eq (by omega) (by omega)] at c3
            refine gs_n 49 a_X3_keptOf_47 rfl ?_
            refine gs_n 53 a_X3_keptOf_49 rfl ?_
            exact fin (min s m) (by rw [if_pos c3])
theorem e_keptOf {d : Nat} {h : ix_H} {u : Nat} {l : List (Nat × Nat)} (p m : Nat) (hp : p < 9) (hm : m < 2 ^ 31) (hu : UnsAt h u l) : ev (d + 1) n_X3_keptOf [.ref u, .int (nI p), .int (nI m)] h (fun o => o = (some (.int (nI (kp l p m))), h)) := by
  refine ev_of q_X3_keptOf (Nat.le_of_ble_eq_true rfl) ?_
  refine gs_n 1 a_X3_keptOf_0 rfl ?_
  refine gs_n 2 a_X3_keptOf_1 rfl ?_
  refine gs_k (nI 0) 3 a_X3_keptOf_2 (by decide +kernel) rfl ?_
  refine gs_n 5 a_X3_keptOf_3 rfl ?_
  refine gs_k (nI 0) 6 a_X3_keptOf_5 (by decide +kernel) rfl ?_
  refine gs_n 8 a_X3_keptOf_6 rfl ?_
  refine gs_w [(5, .int (nI 0)), (4, .int (nI 0)), (3, .int (nI m)), (0, .ref u), (1, .int (nI p))] (by simp [ix_nd]) (by intro x hx; simp only [List.mem_cons, List.not_mem_nil, or_false] at hx; rcases hx with rfl | rfl | rfl | rfl | rfl <;> rfl) ?_
  refine gs_post (l_keptOf p hp hu l.length 0 0 m (by omega) (by omega) hm) ?_
  rintro o rfl
  rw [List.drop_zero, Nat.zero_add]
