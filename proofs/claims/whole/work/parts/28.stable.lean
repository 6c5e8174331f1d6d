/-! Log.stable -/
theorem RowAt.fr {h h' : ix_H} {r a N : Nat} {bs : List Nat} (hr : RowAt h r a N bs) (e1 : h'.2.2 r = h.2.2 r) (e2 : h'.2.2 a = h.2.2 a) : RowAt h' r a N bs := by
  obtain ⟨h1, ⟨f, h2, h3⟩, h4⟩ := hr
  exact ⟨e1.trans h1, ⟨f, e2.trans h2, h3⟩, h4⟩
theorem LogAt.fr {h h' : ix_H} {L : Nat} {es : List En} {tn : List Nat} (hl : LogAt h L es tn) (hF : Fr [L + 4, L + 5] h h') (h4 : ∃ f, h'.2.2 (L + 4) = .inl (.boolean, 285, .inl f)) (h5 : ∃ f, h'.2.2 (L + 5) = .inl (.int, 32, .inl f)) : LogAt h' L es tn := by
  obtain ⟨g1, g2, ⟨f, g3, g4⟩, -, -, g7⟩ := hl
  refine ⟨(hF.2.2 L (by simp)).trans g1, g2.fr (hF.2.2 _ (by simp)) (hF.2.2 _ (by simp)), ⟨f, (hF.2.2 _ (by simp)).trans g3, g4⟩, h4, h5, g7⟩
theorem b01_and (b : Bool) : b01 b &&& 1 = b01 b := by cases b <;> decide +kernel
set_option maxHeartbeats 1000000 in
theorem l_stable {d : Nat} {h0 : ix_H} {L : Nat} {es : List En} {tn : List Nat} : ∀ (j : Nat) (h : ix_H), j ≤ es.length → Fr [L + 4, L + 5] h0 h → LogAt h L es tn → StbI h L es j →
    gs none (d + 2) mD_X1_stable (20, [(2, .int (nI j - nI 1)), (1, .int (nI (stbAt es es.length (es.length - j)))), (0, .ref L)], [], h) (fun u => u.1 = some (.int (nI (stbAt es es.length es.length))) ∧ Fr [L + 4, L + 5] h0 u.2 ∧ LogAt u.2 L es tn ∧ StbI u.2 L es 0) := by
  intro j
  induction j with
  | zero =>
    intro h hj hF hl hI
    refine gs_n 21 a_X1_stable_20 rfl ?_
    refine gs_if 118 24 a_X1_stable_21 rfl rfl (fun c => ?_) (fun c => ?_)
    · refine gs_n 119 a_X1_stable_118 rfl ?_
      refine gs_iret a_X1_stable_119 rfl rfl ?_
      exact ⟨by rw [Nat.sub_zero], hF, hl, hI⟩
    · exact absurd ((m1_neg 0 (by omega)).mpr rfl) c
  | succ j ih =>
    intro h hj hF hl hI
    have hj' : j < es.length := by omega
    have hlen := hl.len
    have hl1 := hl.1
    have hok := hl.2.2.2.2.2 _ (getD_mem hj')
    have hle := encP_len hok
    obtain ⟨⟨g, hg1, hg2⟩, ⟨ft, hf1, hf2⟩⟩ := hI
    have hdc := drop_cons hj'
    have hn4 : ¬ L + 5 = L + 4 := by omega
    have hn5 : ¬ L + 4 = L + 5 := by omega
    have hn6 : ¬ L = L + 4 := by omega
    have hn7 : ¬ L = L + 5 := by omega
    rw [m1_succ]
    have hcom := comAt_eq es j
    have hstb : stbAt es es.length (es.length - j) = if eK (es.getD j en0) = 1 ∧ fateFrom (es.drop j) (eY (es.getD j en0)) = none then j else stbAt es es.length (es.length - (j + 1)) := by
      rw [show es.length - j = (es.length - (j + 1)) + 1 by omega]
      simp only [stbAt]
      rw [show es.length - (es.length - (j + 1) + 1) = j by omega]
    have hcomD : ∀ o, o = j → comAt es o = comAt es j := fun o ho => by rw [ho]
    have hfk : ∀ k, fateFrom (es.drop j) k = if 2 ≤ eK (es.getD j en0) ∧ eY (es.getD j en0) = k then some (eK (es.getD j en0)) else fateFrom (es.drop (j + 1)) k := by
      intro k; rw [hdc]; rfl
    generalize hst : stbAt es es.length (es.length - (j + 1)) = s0 at hstb
    generalize hE : es.getD j en0 = E at hok hle hcom hstb hfk
    refine gs_n 21 a_X1_stable_20 rfl ?_
    refine gs_if 118 24 a_X1_stable_21 rfl rfl (fun c => ?_) (fun c => ?_)
    · exact absurd c (nI_pos (by omega))
    · refine gs_n 25 a_X1_stable_24 rfl ?_
      refine gs_n 26 a_X1_stable_25 rfl ?_
      refine gs_cv 29 a_X1_stable_26 k_1_62 q_X1_kindOf (e_kindOf j hj' hl) rfl rfl rfl (by simp [Value.category]) (by first | assumption | exact hs_same _ _ _ | exact (hs_ne _ _ (by first | assumption | decide | omega)).trans (by first | assumption | exact hs_same _ _ _ | exact (hs_ne _ _ (by first | assumption | decide | omega)).trans (by first | assumption | exact hs_same _ _ _ | exact (hs_ne _ _ (by first | assumption | decide | omega)).trans (by first | assumption | exact hs_same _ _ _ | exact (hs_ne _ _ (by first | assumption | decide | omega)).trans (by first | assumption | exact hs_same _ _ _))))) rfl (fun v h1 hp => ?_)
      cases hp
      rw [hE]
      refine gs_n 30 a_X1_stable_29 rfl ?_
      refine gs_n 31 a_X1_stable_30 rfl ?_
      refine gs_n 32 a_X1_stable_31 rfl ?_
      refine gs_k (nI 7) 34 a_X1_stable_32 (by decide +kernel) rfl ?_
      refine gs_k (nI 1) 35 a_X1_stable_34 (by decide +kernel) rfl ?_
      refine gs_cv 38 a_X1_stable_35 k_1_72 q_X1_field (e_field j 7 1 hj' (by rw [hE]; omega) hl) rfl rfl rfl (by simp [Value.category]) (by first | assumption | exact hs_same _ _ _ | exact (hs_ne _ _ (by first | assumption | decide | omega)).trans (by first | assumption | exact hs_same _ _ _ | exact (hs_ne _ _ (by first | assumption | decide | omega)).trans (by first | assumption | exact hs_same _ _ _ | exact (hs_ne _ _ (by first | assumption | decide | omega)).trans (by first | assumption | exact hs_same _ _ _ | exact (hs_ne _ _ (by first | assumption | decide | omega)).trans (by first | assumption | exact hs_same _ _ _))))) rfl (fun v h1 hp => ?_)
      cases hp
      rw [hE, (encP_f _).2.2.1, beN1 (by have := hok.2.1; omega)]
      refine gs_k (nI 31) 40 a_X1_stable_38 (by decide +kernel) rfl ?_
      refine gs_n 43 a_X1_stable_40 rfl ?_
      have hkey : eY E < 32 := hok.2.1
      have hk3 : eK E ≤ 3 := hok.1
      refine gs_top (nI (eY E)) (by rw [if_neg (by rw [nI_ltI (by omega) (by omega)]; omega)]) ?_
      have hfY : ft (eY E) = oI (fateFrom (es.drop (j + 1)) (eY E)) := hf2 _ hkey
      have hfate := @fate_k (es.drop (j + 1)) (fun e he => hl.2.2.2.2.2 e (List.mem_of_mem_drop he)) (eY E)
      generalize hft : fateFrom (es.drop (j + 1)) (eY E) = fa at hfY hfate
      generalize hKE : eK E = K at hcom hstb hfk hk3
      generalize hYE : eY E = Y at hcom hstb hfk hkey hft hfY
      -- the end of an iteration
      have k112 : ∀ (h2 : ix_H), Fr [L + 4, L + 5] h0 h2 → LogAt h2 L es tn → StbI h2 L es j → gs none (d + 2) mD_X1_stable (112, [(1, .int (nI (stbAt es es.length (es.length - j)))), (4, .int (nI Y)), (3, .int (nI K)), (2, .int (nI j)), (0, .ref L)], [], h2) (fun u => u.1 = some (.int (nI (stbAt es es.length es.length))) ∧ Fr [L + 4, L + 5] h0 u.2 ∧ LogAt u.2 L es tn ∧ StbI u.2 L es 0) := by
        intro h2 hF2 hl2 hI2
        refine gs_n 115 a_X1_stable_112 rfl ?_
        refine gs_n 20 a_X1_stable_115 rfl ?_
        refine gs_w [(2, .int (nI j + Int32.ofInt (-1))), (1, .int (nI (stbAt es es.length (es.length - j)))), (0, .ref L)] (by simp [ix_nd]) (by intro x hx; simp only [List.mem_cons, List.not_mem_nil, or_false] at hx; rcases hx with rfl | rfl | rfl <;> rfl) ?_
        rw [dec1]
        exact ih h2 (by omega) hF2 hl2 hI2
      have k94 : ∀ (h2 : ix_H) (ft2 : Nat → Int32), Fr [L + 4, L + 5] h0 h2 → LogAt h2 L es tn → (∃ f, h2.2.2 (L + 4) = .inl (.boolean, 285, .inl f) ∧ ∀ o, j ≤ o → o < es.length → f o = b01 (comAt es o)) → h2.2.2 (L + 5) = .inl (.int, 32, .inl ft2) → (∀ k, k < 32 → ft2 k = oI (fateFrom (es.drop (j + 1)) k)) → gs none (d + 2) mD_X1_stable (94, [(1, .int (nI (stbAt es es.length (es.length - j)))), (4, .int (nI Y)), (3, .int (nI K)), (2, .int (nI j)), (0, .ref L)], [], h2) (fun u => u.1 = some (.int (nI (stbAt es es.length es.length))) ∧ Fr [L + 4, L + 5] h0 u.2 ∧ LogAt u.2 L es tn ∧ StbI u.2 L es 0) := by
        intro h2 ft2 hF2 hl2 hC hc5 hft2
        have hl21 := hl2.1
        have setF : 2 ≤ K → gs none (d + 2) mD_X1_stable (104, [(1, .int (nI (stbAt es es.length (es.length - j)))), (4, .int (nI Y)), (3, .int (nI K)), (2, .int (nI j)), (0, .ref L)], [], h2) (fun u => u.1 = some (.int (nI (stbAt es es.length es.length))) ∧ Fr [L + 4, L + 5] h0 u.2 ∧ LogAt u.2 L es tn ∧ StbI u.2 L es 0) := by
          intro hK2
          refine gs_n 105 a_X1_stable_104 rfl ?_
          refine gs_get 108 a_X1_stable_105 f_1_28 (by first | assumption | exact hs_same _ _ _ | exact (hs_ne _ _ (by first | assumption | decide | omega)).trans (by first | assumption | exact hs_same _ _ _ | exact (hs_ne _ _ (by first | assumption | decide | omega)).trans (by first | assumption | exact hs_same _ _ _ | exact (hs_ne _ _ (by first | assumption | decide | omega)).trans (by first | assumption | exact hs_same _ _ _ | exact (hs_ne _ _ (by first | assumption | decide | omega)).trans (by first | assumption | exact hs_same _ _ _))))) rfl rfl ?_
          refine gs_n 110 a_X1_stable_108 rfl ?_
          refine gs_n 111 a_X1_stable_110 rfl ?_
          refine gs_is Y 112 a_X1_stable_111 (by first | assumption | exact hs_same _ _ _ | exact (hs_ne _ _ (by first | assumption | decide | omega)).trans (by first | assumption | exact hs_same _ _ _ | exact (hs_ne _ _ (by first | assumption | decide | omega)).trans (by first | assumption | exact hs_same _ _ _ | exact (hs_ne _ _ (by first | assumption | decide | omega)).trans (by first | assumption | exact hs_same _ _ _ | exact (hs_ne _ _ (by first | assumption | decide | omega)).trans (by first | assumption | exact hs_same _ _ _))))) rfl (by omega) (by omega) rfl ?_
          obtain ⟨f4, c4, c4'⟩ := hC
          refine k112 _ (hF2.trans (Fr.set _ (by simp))) (hl2.fr (Fr.set _ (by simp)) ⟨f4, (hs_ne _ _ hn5).trans c4⟩ ⟨_, hs_same _ _ _⟩) ⟨⟨f4, (hs_ne _ _ hn5).trans c4, c4'⟩, ⟨_, hs_same _ _ _, ?_⟩⟩
          intro k hk
          rw [hfk]
          by_cases e : k = Y
          · subst e
            rw [pk_us]
            simp [hK2, oI]
          · rw [pk_un e, hft2 k hk, if_neg (fun z : 2 ≤ K ∧ Y = k => e z.2.symm)]
        refine gs_n 95 a_X1_stable_94 rfl ?_
        refine gs_k (nI 2) 96 a_X1_stable_95 (by decide +kernel) rfl ?_
        refine gs_ic 104 99 a_X1_stable_96 rfl rfl (fun c5 => ?_) (fun c5 => ?_)
        · have c5 : nI K = nI 2 := c5
          rw [nI_eq (by omega) (by omega)] at c5
          exact setF (by omega)
        · have c5 : ¬ nI K = nI 2 := c5
          rw [nI_eq (by omega) (by omega)] at c5
          refine gs_n 100 a_X1_stable_99 rfl ?_
          refine gs_k (nI 3) 101 a_X1_stable_100 (by decide +kernel) rfl ?_
          refine gs_ic 112 104 a_X1_stable_101 rfl rfl (fun c6 => ?_) (fun c6 => ?_)
          · have c6 : ¬ nI K = nI 3 := c6
            rw [nI_eq (by omega) (by omega)] at c6
            refine k112 _ hF2 hl2 ⟨hC, ⟨ft2, hc5, ?_⟩⟩
            intro k hk
            rw [hft2 k hk, hfk, if_neg (fun z : 2 ≤ K ∧ Y = k => by have := z.1; omega)]
          · have c6 : nI K = nI 3 := Classical.byContradiction c6
            rw [nI_eq (by omega) (by omega)] at c6
            exact setF (by omega)
      have k75 : gs none (d + 2) mD_X1_stable (75, ix_put1 (ix_put1 [(2, .int (nI j)), (1, .int (nI s0)), (0, .ref L)] 3 (.int (nI K))) 4 (.int (nI Y)), [.int (b01 (comAt es j)), .int (nI j), .ref (L + 4)], h) (fun u => u.1 = some (.int (nI (stbAt es es.length es.length))) ∧ Fr [L + 4, L + 5] h0 u.2 ∧ LogAt u.2 L es tn ∧ StbI u.2 L es 0) := by
        refine gs_zs j 76 a_X1_stable_75 (by first | assumption | exact hs_same _ _ _ | exact (hs_ne _ _ (by first | assumption | decide | omega)).trans (by first | assumption | exact hs_same _ _ _ | exact (hs_ne _ _ (by first | assumption | decide | omega)).trans (by first | assumption | exact hs_same _ _ _ | exact (hs_ne _ _ (by first | assumption | decide | omega)).trans (by first | assumption | exact hs_same _ _ _ | exact (hs_ne _ _ (by first | assumption | decide | omega)).trans (by first | assumption | exact hs_same _ _ _))))) rfl (by omega) (by omega) rfl ?_
        rw [b01_and]
        have hl2 : LogAt (ix_set h (L + 4) (.inl (.boolean, 285, .inl (upd g j (b01 (comAt es j)))))) L es tn := hl.fr (Fr.set _ (by simp)) ⟨_, hs_same _ _ _⟩ ⟨ft, (hs_ne _ _ hn4).trans hf1⟩
        have hF2 : Fr [L + 4, L + 5] h0 (ix_set h (L + 4) (.inl (.boolean, 285, .inl (upd g j (b01 (comAt es j)))))) := hF.trans (Fr.set _ (by simp))
        have hC2 : ∃ f, (ix_set h (L + 4) (.inl (.boolean, 285, .inl (upd g j (b01 (comAt es j)))))).2.2 (L + 4) = .inl (.boolean, 285, .inl f) ∧ ∀ o, j ≤ o → o < es.length → f o = b01 (comAt es o) := by
          refine ⟨_, hs_same _ _ _, ?_⟩
          intro o ho1 ho2
          by_cases e : o = j
          · subst e; rw [pk_us]
          · rw [pk_un e]; exact hg2 o (by omega) ho2
        have hc5 : (ix_set h (L + 4) (.inl (.boolean, 285, .inl (upd g j (b01 (comAt es j)))))).2.2 (L + 5) = .inl (.int, 32, .inl ft) := (hs_ne _ _ hn4).trans hf1
        generalize ix_set h (L + 4) (.inl (.boolean, 285, .inl (upd g j (b01 (comAt es j))))) = h2 at hl2 hF2 hC2 hc5
        have hl21 := hl2.1
        have stay : stbAt es es.length (es.length - j) = s0 → gs none (d + 2) mD_X1_stable (94, ix_put1 (ix_put1 [(2, .int (nI j)), (1, .int (nI s0)), (0, .ref L)] 3 (.int (nI K))) 4 (.int (nI Y)), [], h2) (fun u => u.1 = some (.int (nI (stbAt es es.length es.length))) ∧ Fr [L + 4, L + 5] h0 u.2 ∧ LogAt u.2 L es tn ∧ StbI u.2 L es 0) := by
          intro e0
          have k := k94 h2 ft hF2 hl2 hC2 hc5 hf2
          rw [e0] at k
          refine gs_w [(1, .int (nI s0)), (4, .int (nI Y)), (3, .int (nI K)), (2, .int (nI j)), (0, .ref L)] (by simp [ix_nd]) (by intro x hx; simp only [List.mem_cons, List.not_mem_nil, or_false] at hx; rcases hx with rfl | rfl | rfl | rfl | rfl <;> rfl) ?_
          exact k
        refine gs_n 77 a_X1_stable_76 rfl ?_
        refine gs_k (nI 1) 78 a_X1_stable_77 (by decide +kernel) rfl ?_
        refine gs_ic 94 81 a_X1_stable_78 rfl rfl (fun c7 => ?_) (fun c7 => ?_)
        · have c7 : ¬ nI K = nI 1 := c7
          rw [nI_eq (by omega) (by omega)] at c7
          exact stay (by rw [hstb, if_neg (fun z => c7 z.1)])
        · have c7 : nI K = nI 1 := Classical.byContradiction c7
          rw [nI_eq (by omega) (by omega)] at c7
          have hff : fateFrom (es.drop j) Y = fa := by
            rw [hfk, if_neg (by omega), hft]
          refine gs_n 82 a_X1_stable_81 rfl ?_
          refine gs_get 85 a_X1_stable_82 f_1_28 (by first | assumption | exact hs_same _ _ _ | exact (hs_ne _ _ (by first | assumption | decide | omega)).trans (by first | assumption | exact hs_same _ _ _ | exact (hs_ne _ _ (by first | assumption | decide | omega)).trans (by first | assumption | exact hs_same _ _ _ | exact (hs_ne _ _ (by first | assumption | decide | omega)).trans (by first | assumption | exact hs_same _ _ _ | exact (hs_ne _ _ (by first | assumption | decide | omega)).trans (by first | assumption | exact hs_same _ _ _))))) rfl rfl ?_
          refine gs_n 87 a_X1_stable_85 rfl ?_
          refine gs_ia Y 88 a_X1_stable_87 (by first | assumption | exact hs_same _ _ _ | exact (hs_ne _ _ (by first | assumption | decide | omega)).trans (by first | assumption | exact hs_same _ _ _ | exact (hs_ne _ _ (by first | assumption | decide | omega)).trans (by first | assumption | exact hs_same _ _ _ | exact (hs_ne _ _ (by first | assumption | decide | omega)).trans (by first | assumption | exact hs_same _ _ _ | exact (hs_ne _ _ (by first | assumption | decide | omega)).trans (by first | assumption | exact hs_same _ _ _))))) rfl (by omega) (by omega) rfl ?_
          rw [hfY]
          refine gs_k (-1) 89 a_X1_stable_88 (by decide +kernel) rfl ?_
          refine gs_ic 94 92 a_X1_stable_89 rfl rfl (fun c8 => ?_) (fun c8 => ?_)
          · have c8 : ¬ oI fa = -1 := c8
            refine stay ?_
            rw [hstb, if_neg]
            rintro ⟨-, z⟩
            rw [hff] at z
            rw [z] at c8
            exact c8 rfl
          · have c8 : oI fa = -1 := Classical.byContradiction c8
            have hfa : fa = none := by
              cases fa with
              | none => rfl
              | some x =>
                rcases hfate rfl with rfl | rfl
                · exact absurd c8 (by decide +kernel)
                · exact absurd c8 (by decide +kernel)
            refine gs_n 93 a_X1_stable_92 rfl ?_
            refine gs_n 94 a_X1_stable_93 rfl ?_
            have k := k94 h2 ft hF2 hl2 hC2 hc5 hf2
            rw [hstb, if_pos ⟨c7, by rw [hff, hfa]⟩] at k
            refine gs_w [(1, .int (nI j)), (4, .int (nI Y)), (3, .int (nI K)), (2, .int (nI j)), (0, .ref L)] (by simp [ix_nd]) (by intro x hx; simp only [List.mem_cons, List.not_mem_nil, or_false] at hx; rcases hx with rfl | rfl | rfl | rfl | rfl <;> rfl) ?_
            exact k
      refine gs_n 45 a_X1_stable_43 rfl ?_
      refine gs_n 46 a_X1_stable_45 rfl ?_
      refine gs_get 49 a_X1_stable_46 f_1_24 (by first | assumption | exact hs_same _ _ _ | exact (hs_ne _ _ (by first | assumption | decide | omega)).trans (by first | assumption | exact hs_same _ _ _ | exact (hs_ne _ _ (by first | assumption | decide | omega)).trans (by first | assumption | exact hs_same _ _ _ | exact (hs_ne _ _ (by first | assumption | decide | omega)).trans (by first | assumption | exact hs_same _ _ _ | exact (hs_ne _ _ (by first | assumption | decide | omega)).trans (by first | assumption | exact hs_same _ _ _))))) rfl rfl ?_
      refine gs_n 50 a_X1_stable_49 rfl ?_
      refine gs_n 51 a_X1_stable_50 rfl ?_
      refine gs_if 70 54 a_X1_stable_51 rfl rfl (fun c1 => ?_) (fun c1 => ?_)
      · have c1 : nI K = nI 0 := c1
        rw [nI_eq (by omega) (by omega)] at c1
        refine gs_k (nI 1) 71 a_X1_stable_70 (by decide +kernel) rfl ?_
        refine gs_n 75 a_X1_stable_71 rfl ?_
        have : comAt es j = true := hcom.mpr (Or.inl c1)
        rw [this] at k75
        exact k75
      · have c1 : ¬ nI K = nI 0 := c1
        rw [nI_eq (by omega) (by omega)] at c1
        refine gs_n 55 a_X1_stable_54 rfl ?_
        refine gs_k (nI 1) 56 a_X1_stable_55 (by decide +kernel) rfl ?_
        refine gs_ic 74 59 a_X1_stable_56 rfl rfl (fun c2 => ?_) (fun c2 => ?_)
        · have c2 : ¬ nI K = nI 1 := c2
          rw [nI_eq (by omega) (by omega)] at c2
          refine gs_k (nI 0) 75 a_X1_stable_74 (by decide +kernel) rfl ?_
          have : comAt es j = false := by
            cases hc : comAt es j with
            | false => rfl
            | true => rcases hcom.mp hc with z | z <;> omega
          rw [this] at k75
          exact k75
        · have c2 : nI K = nI 1 := Classical.byContradiction c2
          rw [nI_eq (by omega) (by omega)] at c2
          have hff : fateFrom (es.drop j) Y = fa := by
            rw [hfk, if_neg (by omega), hft]
          refine gs_n 60 a_X1_stable_59 rfl ?_
          refine gs_get 63 a_X1_stable_60 f_1_28 (by first | assumption | exact hs_same _ _ _ | exact (hs_ne _ _ (by first | assumption | decide | omega)).trans (by first | assumption | exact hs_same _ _ _ | exact (hs_ne _ _ (by first | assumption | decide | omega)).trans (by first | assumption | exact hs_same _ _ _ | exact (hs_ne _ _ (by first | assumption | decide | omega)).trans (by first | assumption | exact hs_same _ _ _ | exact (hs_ne _ _ (by first | assumption | decide | omega)).trans (by first | assumption | exact hs_same _ _ _))))) rfl rfl ?_
          refine gs_n 65 a_X1_stable_63 rfl ?_
          refine gs_ia Y 66 a_X1_stable_65 (by first | assumption | exact hs_same _ _ _ | exact (hs_ne _ _ (by first | assumption | decide | omega)).trans (by first | assumption | exact hs_same _ _ _ | exact (hs_ne _ _ (by first | assumption | decide | omega)).trans (by first | assumption | exact hs_same _ _ _ | exact (hs_ne _ _ (by first | assumption | decide | omega)).trans (by first | assumption | exact hs_same _ _ _ | exact (hs_ne _ _ (by first | assumption | decide | omega)).trans (by first | assumption | exact hs_same _ _ _))))) rfl (by omega) (by omega) rfl ?_
          rw [hfY]
          refine gs_k (nI 2) 67 a_X1_stable_66 (by decide +kernel) rfl ?_
          refine gs_ic 74 70 a_X1_stable_67 rfl rfl (fun c3 => ?_) (fun c3 => ?_)
          · have c3 : ¬ oI fa = nI 2 := c3
            refine gs_k (nI 0) 75 a_X1_stable_74 (by decide +kernel) rfl ?_
            have : comAt es j = false := by
              cases hc : comAt es j with
              | false => rfl
              | true =>
                rcases hcom.mp hc with z | z
                · omega
                · rw [hff] at z
                  rw [z.2] at c3
                  exact absurd rfl c3
            rw [this] at k75
            exact k75
          · have c3 : oI fa = nI 2 := Classical.byContradiction c3
            have hfa : fa = some 2 := by
              cases fa with
              | none => exact absurd c3 (by decide +kernel)
              | some x =>
                rcases hfate rfl with rfl | rfl
                · rfl
                · exact absurd c3 (by decide +kernel)
            refine gs_k (nI 1) 71 a_X1_stable_70 (by decide +kernel) rfl ?_
            refine gs_n 75 a_X1_stable_71 rfl ?_
            have : comAt es j = true := hcom.mpr (Or.inr ⟨c2, by rw [hff, hfa]⟩)
            rw [this] at k75
            exact k75
/-- STABLE -/
def stb (es : List En) : Nat := stbAt es es.length es.length
theorem e_stable {d : Nat} {h : ix_H} {L : Nat} {es : List En} {tn : List Nat} (hl : LogAt h L es tn) : ev (d + 3) n_X1_stable [.ref L] h (fun u => u.1 = some (.int (nI (stb es))) ∧ Fr [L + 4, L + 5] h u.2 ∧ LogAt u.2 L es tn ∧ StbI u.2 L es 0) := by
  have hl0 := hl
  obtain ⟨g1, g2, g3, ⟨f4, g4⟩, ⟨f5, g5⟩, g7⟩ := hl
  refine ev_of q_X1_stable (Nat.le_of_ble_eq_true rfl) ?_
  refine gs_n 1 a_X1_stable_0 rfl ?_
  refine gs_get 4 a_X1_stable_1 f_1_28 (by first | assumption | exact hs_same _ _ _ | exact (hs_ne _ _ (by first | assumption | decide | omega)).trans (by first | assumption | exact hs_same _ _ _ | exact (hs_ne _ _ (by first | assumption | decide | omega)).trans (by first | assumption | exact hs_same _ _ _ | exact (hs_ne _ _ (by first | assumption | decide | omega)).trans (by first | assumption | exact hs_same _ _ _ | exact (hs_ne _ _ (by first | assumption | decide | omega)).trans (by first | assumption | exact hs_same _ _ _))))) rfl rfl ?_
  refine gs_k (-1) 5 a_X1_stable_4 (by decide +kernel) rfl ?_
  refine gs_cs 8 a_X1_stable_5 k_1_80 q_J7_fill_53178 (e_fill (-1) (by decide) g5) rfl rfl rfl (by simp [Value.category]) rfl (fun v h1 hp => ?_)
  obtain ⟨e1, hF, g, hg1, hg2⟩ := hp
  subst e1
  have hF' : Fr [L + 4, L + 5] h h1 := hF.mono (by simp)
  have hl1 : LogAt h1 L es tn := hl0.fr hF' ⟨f4, (hF.2.2 _ (by simp)).trans g4⟩ ⟨g, hg1⟩
  have hl11 := hl1.1
  refine gs_n 9 a_X1_stable_8 rfl ?_
  refine gs_get 12 a_X1_stable_9 f_1_34 (by first | assumption | exact hs_same _ _ _ | exact (hs_ne _ _ (by first | assumption | decide | omega)).trans (by first | assumption | exact hs_same _ _ _ | exact (hs_ne _ _ (by first | assumption | decide | omega)).trans (by first | assumption | exact hs_same _ _ _ | exact (hs_ne _ _ (by first | assumption | decide | omega)).trans (by first | assumption | exact hs_same _ _ _ | exact (hs_ne _ _ (by first | assumption | decide | omega)).trans (by first | assumption | exact hs_same _ _ _))))) rfl rfl ?_
  refine gs_n 13 a_X1_stable_12 rfl ?_
  refine gs_n 14 a_X1_stable_13 rfl ?_
  refine gs_get 17 a_X1_stable_14 f_1_34 (by first | assumption | exact hs_same _ _ _ | exact (hs_ne _ _ (by first | assumption | decide | omega)).trans (by first | assumption | exact hs_same _ _ _ | exact (hs_ne _ _ (by first | assumption | decide | omega)).trans (by first | assumption | exact hs_same _ _ _ | exact (hs_ne _ _ (by first | assumption | decide | omega)).trans (by first | assumption | exact hs_same _ _ _ | exact (hs_ne _ _ (by first | assumption | decide | omega)).trans (by first | assumption | exact hs_same _ _ _))))) rfl rfl ?_
  refine gs_k (nI 1) 18 a_X1_stable_17 (by decide +kernel) rfl ?_
  refine gs_n 19 a_X1_stable_18 rfl ?_
  refine gs_n 20 a_X1_stable_19 rfl ?_
  refine gs_w [(2, .int (nI es.length - nI 1)), (1, .int (nI (stbAt es es.length 0))), (0, .ref L)] (by simp [ix_nd]) (by intro x hx; simp only [List.mem_cons, List.not_mem_nil, or_false] at hx; rcases hx with rfl | rfl | rfl <;> rfl) ?_
  have k := l_stable (d := d) (h0 := h) (tn := tn) es.length h1 (Nat.le_refl _) hF' hl1 ⟨⟨f4, (hF.2.2 _ (by simp)).trans g4, fun o h1 h2 => by omega⟩, ⟨g, hg1, fun k hk => by rw [hg2 k hk, List.drop_of_length_le (Nat.le_refl _)]; rfl⟩⟩
  rw [Nat.sub_self] at k
  exact k
