/-! OnceLedger: crash -/
section CD
variable {d : Nat} {h h' : ix_H} {P cap tmo clk cut sy torn : Nat} {cl : Bool} {X : List En} {tE : En} {tp an : List Nat} {o : ix_E} {ls ls' : LgT} {bb : List Nat} {un : List (Nat × Nat)} {pr pr' : Nat → PS} {mk mk' : Nat → Int32}
/-- bytes of a file that a crash keeps -/
def nl (P : Nat) (X : List En) (sy m f : Nat) : Nat := sumOn (szF P f) (X.take (sy + (crp P (X.drop sy) m).1)) + (if eF (X.getD (sy + (crp P (X.drop sy) m).1) en0) = f then (crp P (X.drop sy) m).2 else 0)
theorem getD_dropE {l : List En} {i j : Nat} : (l.drop i).getD j en0 = l.getD (i + j) en0 := drop_getD
theorem nl_eq {m : Nat} (hsy : sy ≤ X.length) (hm : m ≤ sumOn (sz P) (X.drop sy)) (f : Nat) : totOf (unO P X sy) f ≤ sumOn (szF P f) X ∧ sumOn (szF P f) X - totOf (unO P X sy) f + kp (unO P X sy) f m = nl P X sy m f ∧ nl P X sy m f ≤ sumOn (szF P f) X := by
  have h1 : sumOn (szF P f) X = sumOn (szF P f) (X.take sy) + sumOn (szF P f) (X.drop sy) := by rw [← sumOn_app, List.take_append_drop]
  have h2 := kp_crp (P := P) f (X.drop sy) m hm
  have h3 : unO P X sy = (X.drop sy).map (fun e => (eF e, sz P e)) := rfl
  have h4 := crp_ok (P := P) (X.drop sy) m hm
  have h5 : sumOn (szF P f) (X.take (sy + (crp P (X.drop sy) m).1)) = sumOn (szF P f) (X.take sy) + sumOn (szF P f) ((X.drop sy).take (crp P (X.drop sy) m).1) := by
    rw [List.take_add, sumOn_app]
  rw [totOf_un, h3, h2, drop_getD]
  unfold nl
  rw [h5]
  refine ⟨by omega, by omega, ?_⟩
  have h6 : sumOn (szF P f) (X.drop sy) = sumOn (szF P f) ((X.drop sy).take (crp P (X.drop sy) m).1) + sumOn (szF P f) ((X.drop sy).drop (crp P (X.drop sy) m).1) := by rw [← sumOn_app, List.take_append_drop]
  by_cases z : (crp P (X.drop sy) m).1 < (X.drop sy).length
  · have h7 := h4.2.2.1 z
    rw [drop_getD] at h7
    have h8 : (X.drop sy).drop (crp P (X.drop sy) m).1 = X.getD (sy + (crp P (X.drop sy) m).1) en0 :: (X.drop sy).drop ((crp P (X.drop sy) m).1 + 1) := by
      rw [drop_cons z, drop_getD]
    rw [h8] at h6
    have h9 : sumOn (szF P f) (X.getD (sy + (crp P (X.drop sy) m).1) en0 :: (X.drop sy).drop ((crp P (X.drop sy) m).1 + 1)) = szF P f (X.getD (sy + (crp P (X.drop sy) m).1) en0) + sumOn (szF P f) ((X.drop sy).drop ((crp P (X.drop sy) m).1 + 1)) := by simp [sumOn]
    unfold szF at h9 ⊢
    by_cases y : eF (X.getD (sy + (crp P (X.drop sy) m).1) en0) = f
    · rw [if_pos y] at h9 ⊢
      unfold szF at h1 h6
      omega
    · rw [if_neg y]
      unfold szF at h1 h6
      omega
  · rw [h4.2.1 (by omega), ite_self]
    omega
theorem LogAt.crC {L n : Nat} {es : List En} (hl : LogAt h L es []) (hF : Fr [L + 1, L + 2] h h') (hr : RowAt h' (L + 1) (L + 2) 4000 ((es.flatMap encP).take n)) (hn : n ≤ (es.flatMap encP).length) : LogC h' L es es.length n := by
  have hlen := hl.len
  obtain ⟨g1, g2, ⟨f3, g3, g3'⟩, ⟨f4, g4⟩, ⟨f5, g5⟩, g7⟩ := hl
  exact ⟨(hF.2.2 _ (by simp)).trans g1, hr, ⟨f3, (hF.2.2 _ (by simp)).trans g3, g3'⟩, ⟨f4, (hF.2.2 _ (by simp)).trans g4⟩, ⟨f5, (hF.2.2 _ (by simp)).trans g5⟩, g7, hlen.1, hn, hlen.2.1⟩
/-- what dropBroken leaves of a partition -/
theorem drop_fl {m p : Nat} (hp : p < P) (hX : ∀ e ∈ X, okE P e) (hsy : sy ≤ X.length) (hm : m ≤ sumOn (sz P) (X.drop sy)) : wh (fl p X) (nl P X sy m p) (fl p X).length = (fl p (X.take (sy + (crp P (X.drop sy) m).1))).length ∧ (fl p X).take (fl p (X.take (sy + (crp P (X.drop sy) m).1))).length = fl p (X.take (sy + (crp P (X.drop sy) m).1)) ∧ (((fl p X).flatMap encP).take (nl P X sy m p)).drop (off (fl p X) (fl p (X.take (sy + (crp P (X.drop sy) m).1))).length) = tnO P (crp P (X.drop sy) m).2 (X.getD (sy + (crp P (X.drop sy) m).1) en0) p := by
  have h4 := crp_ok (P := P) (X.drop sy) m hm
  have hYk : ∀ e ∈ X.take (sy + (crp P (X.drop sy) m).1), okE P e := fun e he => hX e (List.mem_of_mem_take he)
  have hb := bytesP_sum hp hYk
  unfold bytesP at hb
  unfold nl
  rw [List.length_drop] at h4
  generalize hj : sy + (crp P (X.drop sy) m).1 = j at *
  generalize hlf : (crp P (X.drop sy) m).2 = left at *
  obtain ⟨r, hr, hr'⟩ := flB_take (X := X) p j
  have hoff : off (fl p X) (fl p (X.take j)).length = ((fl p (X.take j)).flatMap encP).length := by rw [hr, off_app]
  rw [hoff, hb]
  have htk : (fl p X).take (fl p (X.take j)).length = fl p (X.take j) := by rw [hr, List.take_left' rfl]
  by_cases z : eF (X.getD j en0) = p ∧ 0 < left
  · have hjl : j < X.length := by
      by_cases y : j < X.length
      · exact y
      · have := h4.2.1 (by omega); omega
    obtain ⟨r', hr2⟩ := hr' hjl z.1
    have hE := hX _ (getD_mem hjl)
    have hsz := encP_sz hE (by omega)
    have h7 := h4.2.2.1 (by omega)
    rw [drop_getD, hj] at h7
    rw [if_pos z.1]
    have hflat : (fl p X).flatMap encP = (fl p (X.take j)).flatMap encP ++ (encP (X.getD j en0) ++ r'.flatMap encP) := by rw [hr, hr2, List.flatMap_append, List.flatMap_cons]
    have hnext : off (fl p X) ((fl p (X.take j)).length + 1) = ((fl p (X.take j)).flatMap encP).length + (encP (X.getD j en0)).length := by
      have hgd : (fl p X).getD (fl p (X.take j)).length en0 = X.getD j en0 := by
        rw [hr, hr2]
        simp only [List.getD, List.getElem?_append_right (Nat.le_refl _), Nat.sub_self, List.getElem?_cons_zero, Option.getD_some]
      rw [off_succ (by rw [hr, hr2, List.length_append, List.length_cons]; omega), hoff, hgd]
    refine ⟨?_, htk, ?_⟩
    · exact wh_eq (by rw [hoff, hb]; exact Nat.le_add_right _ _) (fun _ => by rw [hnext, hb, hsz]; exact Nat.add_lt_add_left h7 _) _ (by rw [hr, List.length_append]; exact Nat.le_add_right _ _) (Nat.le_refl _)
    · rw [hflat, ← hb, take_more (by omega), List.drop_left' rfl]
      unfold tnO
      rw [if_pos ⟨hp, z.1⟩]
  · have h0 : (if eF (X.getD j en0) = p then left else 0) = 0 := by
      by_cases y : eF (X.getD j en0) = p
      · rw [if_pos y]
        exact Nat.eq_zero_of_not_pos (fun q => z ⟨y, q⟩)
      · rw [if_neg y]
    rw [h0, Nat.add_zero]
    refine ⟨?_, htk, ?_⟩
    · refine wh_eq (by rw [hoff, hb]; exact Nat.le_refl _) (fun q => ?_) _ (by rw [hr, List.length_append]; exact Nat.le_add_right _ _) (Nat.le_refl _)
      rw [off_succ q, hoff, hb]
      have := encP_len (e := (fl p X).getD (fl p (X.take j)).length en0) ((hX _ (fl_mem (getD_mem q)).1).2.2.2 (by have := (fl_mem (getD_mem q)).2; omega))
      omega
    · have hflat : (fl p X).flatMap encP = (fl p (X.take j)).flatMap encP ++ r.flatMap encP := by rw [hr, List.flatMap_append]
      rw [hflat, ← hb, List.take_left' rfl, List.drop_length]
      unfold tnO
      by_cases y : p < P ∧ eF (X.getD j en0) = p
      · rw [if_pos y]
        have : left = 0 := Nat.eq_zero_of_not_pos (fun q => z ⟨y.2, q⟩)
        rw [this]
        rfl
      · rw [if_neg y]
theorem cut_book {m : Nat} (hsy : sy ≤ X.length) (hm : m ≤ sumOn (sz P) (X.drop sy)) : ((fl P X).flatMap encB).take (nl P X sy m P) = (fl P (X.take (sy + (crp P (X.drop sy) m).1))).flatMap encB ++ btO P (crp P (X.drop sy) m).2 (X.getD (sy + (crp P (X.drop sy) m).1) en0) := by
  have h4 := crp_ok (P := P) (X.drop sy) m hm
  unfold nl
  rw [List.length_drop] at h4
  generalize hj : sy + (crp P (X.drop sy) m).1 = j at *
  generalize hlf : (crp P (X.drop sy) m).2 = left at *
  obtain ⟨r, hr, hr'⟩ := flB_take (X := X) P j
  have hb : ((fl P (X.take j)).flatMap encB).length = sumOn (szF P P) (X.take j) := by rw [flatB_len, bytesB_sum]
  rw [← hb]
  by_cases z : eF (X.getD j en0) = P ∧ 0 < left
  · have hjl : j < X.length := by
      by_cases y : j < X.length
      · exact y
      · have := h4.2.1 (by omega); omega
    obtain ⟨r', hr2⟩ := hr' hjl z.1
    have h7 := h4.2.2.1 (by omega)
    rw [drop_getD, hj] at h7
    unfold sz at h7
    rw [if_pos z.1] at h7
    rw [if_pos z.1]
    have hflat : (fl P X).flatMap encB = (fl P (X.take j)).flatMap encB ++ (encB (X.getD j en0) ++ r'.flatMap encB) := by rw [hr, hr2, List.flatMap_append, List.flatMap_cons]
    rw [hflat, take_more (by rw [encB_len]; omega)]
    unfold btO
    rw [if_pos z.1]
  · have h0 : (if eF (X.getD j en0) = P then left else 0) = 0 := by
      by_cases y : eF (X.getD j en0) = P
      · rw [if_pos y]
        exact Nat.eq_zero_of_not_pos (fun q => z ⟨y, q⟩)
      · rw [if_neg y]
    rw [h0, Nat.add_zero]
    have hflat : (fl P X).flatMap encB = (fl P (X.take j)).flatMap encB ++ r.flatMap encB := by rw [hr, List.flatMap_append]
    rw [hflat, List.take_left' rfl]
    unfold btO
    by_cases y : eF (X.getD j en0) = P
    · rw [if_pos y]
      have : left = 0 := Nat.eq_zero_of_not_pos (fun q => z ⟨y, q⟩)
      rw [this]
      simp
    · rw [if_neg y, List.append_nil]
def ls1 (P : Nat) (X : List En) (sy m j : Nat) : LgT := fun p => if p < P then (if p < j then .inr (fl p X, nl P X sy m p) else .inl (fl p X, [])) else .inl ([], [])
def ls2 (P : Nat) (X : List En) (sy m j : Nat) : LgT := fun p => if p < P then (if p < j then .inl (fl p (X.take (sy + (crp P (X.drop sy) m).1)), tnO P (crp P (X.drop sy) m).2 (X.getD (sy + (crp P (X.drop sy) m).1) en0) p) else .inr (fl p X, nl P X sy m p)) else .inl ([], [])
theorem l_cr2 {m al : Nat} {a b c f g : Int32} (hP : P ≤ 8) (hX : ∀ e ∈ X, okE P e) (hsy : sy ≤ X.length) (hm : m ≤ sumOn (sz P) (X.drop sy)) (hal : al < 2 ^ 31) (hml : m ≤ al) : ∀ (r j : Nat) (h : ix_H), j + r = P → CV h (oE (nI P) a b c (b01 false) f g) (ls2 P X sy m j) bb un pr mk tp an →
    gs none (d + 3) mD_X4_crash (83, [(3, .int (nI j)), (0, .ref 0), (1, .int (nI m)), (2, .int (nI al))], [], h) (fun u => u.1 = some (.int (nI (al - m))) ∧ FS cC h u.2 ∧ CV u.2 (oE (nI P) a b c (b01 true) f (nI 0)) (ls2 P X sy m P) bb [] (fun k => if k < 32 then fgt (pr k) else pr k) (fun _ => -1) tp an) := by
  intro r
  induction r with
  | zero =>
    intro j h hj w
    obtain rfl : j = P := by omega
    have w1 := w.1
    have hu := w.2.2.2.2.2.2.1
    have hu1 := hu.1
    refine gs_n 84 a_X4_crash_83 rfl ?_
    refine gs_n 85 a_X4_crash_84 rfl ?_
    refine gs_get 88 a_X4_crash_85 f_4_146 (by first | assumption | exact hs_same _ _ _ | exact (hs_ne _ _ (by first | assumption | decide | omega)).trans (by first | assumption | exact hs_same _ _ _ | exact (hs_ne _ _ (by first | assumption | decide | omega)).trans (by first | assumption | exact hs_same _ _ _ | exact (hs_ne _ _ (by first | assumption | decide | omega)).trans (by first | assumption | exact hs_same _ _ _ | exact (hs_ne _ _ (by first | assumption | decide | omega)).trans (by first | assumption | exact hs_same _ _ _))))) rfl rfl ?_
    refine gs_ic 106 91 a_X4_crash_88 rfl rfl (fun c5 => ?_) (fun c5 => ?_)
    · refine gs_n 107 a_X4_crash_106 rfl ?_
      refine gs_get 110 a_X4_crash_107 f_4_36 (by first | assumption | exact hs_same _ _ _ | exact (hs_ne _ _ (by first | assumption | decide | omega)).trans (by first | assumption | exact hs_same _ _ _ | exact (hs_ne _ _ (by first | assumption | decide | omega)).trans (by first | assumption | exact hs_same _ _ _ | exact (hs_ne _ _ (by first | assumption | decide | omega)).trans (by first | assumption | exact hs_same _ _ _ | exact (hs_ne _ _ (by first | assumption | decide | omega)).trans (by first | assumption | exact hs_same _ _ _))))) rfl rfl ?_
      refine gs_cv 113 a_X4_crash_110 k_4_145 q_X3_clear (e_uclear hu) rfl rfl rfl (by simp [Value.category]) (by first | assumption | exact hs_same _ _ _ | exact (hs_ne _ _ (by first | assumption | decide | omega)).trans (by first | assumption | exact hs_same _ _ _ | exact (hs_ne _ _ (by first | assumption | decide | omega)).trans (by first | assumption | exact hs_same _ _ _ | exact (hs_ne _ _ (by first | assumption | decide | omega)).trans (by first | assumption | exact hs_same _ _ _ | exact (hs_ne _ _ (by first | assumption | decide | omega)).trans (by first | assumption | exact hs_same _ _ _))))) rfl (fun v h3 hp => ?_)
      obtain ⟨e1, hF3, hr3⟩ := hp
      simp only at e1
      subst e1
      have w3 := w.uns (hF3.mono (by intro k hk; simp at hk ⊢; omega)) hr3
      have k3 := w3.1
      refine gs_n 114 a_X4_crash_113 rfl ?_
      refine gs_cv 117 a_X4_crash_114 k_4_165 q_X4_forget (c_forget w3) rfl rfl rfl (by simp [Value.category]) (by first | assumption | exact hs_same _ _ _ | exact (hs_ne _ _ (by first | assumption | decide | omega)).trans (by first | assumption | exact hs_same _ _ _ | exact (hs_ne _ _ (by first | assumption | decide | omega)).trans (by first | assumption | exact hs_same _ _ _ | exact (hs_ne _ _ (by first | assumption | decide | omega)).trans (by first | assumption | exact hs_same _ _ _ | exact (hs_ne _ _ (by first | assumption | decide | omega)).trans (by first | assumption | exact hs_same _ _ _))))) rfl (fun v h5 hp => ?_)
      obtain ⟨e1, hF5, w5⟩ := hp
      simp only at e1
      subst e1
      have k5 := w5.1
      refine gs_n 118 a_X4_crash_117 rfl ?_
      refine gs_k (nI 1) 119 a_X4_crash_118 (by decide +kernel) rfl ?_
      refine gs_put 122 _ a_X4_crash_119 f_4_63 (by first | assumption | exact hs_same _ _ _ | exact (hs_ne _ _ (by first | assumption | decide | omega)).trans (by first | assumption | exact hs_same _ _ _ | exact (hs_ne _ _ (by first | assumption | decide | omega)).trans (by first | assumption | exact hs_same _ _ _ | exact (hs_ne _ _ (by first | assumption | decide | omega)).trans (by first | assumption | exact hs_same _ _ _ | exact (hs_ne _ _ (by first | assumption | decide | omega)).trans (by first | assumption | exact hs_same _ _ _))))) (Nat.le_of_ble_eq_true rfl) rfl (fun z => absurd z (by decide)) rfl rfl ?_
      refine gs_n 123 a_X4_crash_122 rfl ?_
      refine gs_n 124 a_X4_crash_123 rfl ?_
      refine gs_n 125 a_X4_crash_124 rfl ?_
      rw [pk_sub hml]
      refine gs_iret a_X4_crash_125 rfl rfl ?_
      refine ⟨rfl, ((FS.of hF3 (by intro k hk; simp at hk; unfold cC; omega)).trans hF5).trans (FS.of (Fr.set _ (List.mem_singleton.mpr rfl)) (by intro k hk; simp at hk; subst hk; unfold cC; omega)), w5.obj (Fr.set _ (by simp)) (hs_same _ _ _)⟩
    · exact absurd (nI_le (Nat.le_refl _) (by omega)) c5
  | succ r ih =>
    intro j h hj w
    have hjP : j < P := by omega
    have w1 := w.1
    obtain ⟨pf, hp1, hp2⟩ := w.2.2.2.2.1
    have hl := w.2.2.2.2.2.2.2.2.2.1 j (by omega)
    simp only [ls2] at hl
    rw [if_pos hjP, if_neg (Nat.lt_irrefl _)] at hl
    have hl : LogC h (16 + 6 * j) (fl j X) (fl j X).length (nl P X sy m j) := hl
    have hl1 := hl.1
    refine gs_n 84 a_X4_crash_83 rfl ?_
    refine gs_n 85 a_X4_crash_84 rfl ?_
    refine gs_get 88 a_X4_crash_85 f_4_146 (by first | assumption | exact hs_same _ _ _ | exact (hs_ne _ _ (by first | assumption | decide | omega)).trans (by first | assumption | exact hs_same _ _ _ | exact (hs_ne _ _ (by first | assumption | decide | omega)).trans (by first | assumption | exact hs_same _ _ _ | exact (hs_ne _ _ (by first | assumption | decide | omega)).trans (by first | assumption | exact hs_same _ _ _ | exact (hs_ne _ _ (by first | assumption | decide | omega)).trans (by first | assumption | exact hs_same _ _ _))))) rfl rfl ?_
    refine gs_ic 106 91 a_X4_crash_88 rfl rfl (fun c5 => ?_) (fun c5 => ?_)
    · exact absurd c5 (nI_ge (by omega) (by omega))
    · refine gs_n 92 a_X4_crash_91 rfl ?_
      refine gs_get 95 a_X4_crash_92 f_4_26 (by first | assumption | exact hs_same _ _ _ | exact (hs_ne _ _ (by first | assumption | decide | omega)).trans (by first | assumption | exact hs_same _ _ _ | exact (hs_ne _ _ (by first | assumption | decide | omega)).trans (by first | assumption | exact hs_same _ _ _ | exact (hs_ne _ _ (by first | assumption | decide | omega)).trans (by first | assumption | exact hs_same _ _ _ | exact (hs_ne _ _ (by first | assumption | decide | omega)).trans (by first | assumption | exact hs_same _ _ _))))) rfl rfl ?_
      refine gs_n 96 a_X4_crash_95 rfl ?_
      refine gs_aa j (16 + 6 * j) 97 a_X4_crash_96 (by first | assumption | exact hs_same _ _ _ | exact (hs_ne _ _ (by first | assumption | decide | omega)).trans (by first | assumption | exact hs_same _ _ _ | exact (hs_ne _ _ (by first | assumption | decide | omega)).trans (by first | assumption | exact hs_same _ _ _ | exact (hs_ne _ _ (by first | assumption | decide | omega)).trans (by first | assumption | exact hs_same _ _ _ | exact (hs_ne _ _ (by first | assumption | decide | omega)).trans (by first | assumption | exact hs_same _ _ _))))) rfl (by omega) (by decide) (by simp) (hp2 j (by omega)) rfl ?_
      refine gs_cv 100 a_X4_crash_97 k_4_162 q_X1_dropBroken (e_dropB hl) rfl rfl rfl (by simp [Value.category]) (by first | assumption | exact hs_same _ _ _ | exact (hs_ne _ _ (by first | assumption | decide | omega)).trans (by first | assumption | exact hs_same _ _ _ | exact (hs_ne _ _ (by first | assumption | decide | omega)).trans (by first | assumption | exact hs_same _ _ _ | exact (hs_ne _ _ (by first | assumption | decide | omega)).trans (by first | assumption | exact hs_same _ _ _ | exact (hs_ne _ _ (by first | assumption | decide | omega)).trans (by first | assumption | exact hs_same _ _ _))))) rfl (fun v h2 hp => ?_)
      obtain ⟨e1, hF, hl2⟩ := hp
      simp only at e1
      subst e1
      obtain ⟨q1, q2, q3⟩ := drop_fl hjP hX hsy hm
      rw [q1, q2, q3] at hl2
      have w2 := w.log (x := .inl (_, _)) (by omega) (FS.of hF (by intro k hk; simp at hk; omega)) hl2
      have e2 : va_up (ls2 P X sy m j) j (.inl (fl j (X.take (sy + (crp P (X.drop sy) m).1)), tnO P (crp P (X.drop sy) m).2 (X.getD (sy + (crp P (X.drop sy) m).1) en0) j)) = ls2 P X sy m (j + 1) := by
        funext k
        unfold ls2
        by_cases z : k = j
        · subst z; rw [va_up_self, if_pos hjP, if_pos (by omega)]
        · rw [va_up_ne _ _ z]
          by_cases y : k < P
          · rw [if_pos y, if_pos y]
            by_cases x : k < j
            · rw [if_pos x, if_pos (by omega)]
            · rw [if_neg x, if_neg (by omega)]
          · rw [if_neg y, if_neg y]
      rw [e2] at w2
      first | refine gs_inc _ 103 a_X4_crash_100 rfl (Nat.le_of_ble_eq_true rfl) rfl ?_ | refine gs_n 103 a_X4_crash_100 rfl ?_
      refine gs_n 83 a_X4_crash_103 rfl ?_
      refine gs_w [(3, .int (nI (j + 1))), (0, .ref 0), (1, .int (nI m)), (2, .int (nI al))] (by simp [ix_nd]) (by intro x hx; simp only [List.mem_cons, List.not_mem_nil, or_false] at hx; rcases hx with rfl | rfl | rfl | rfl <;> rfl) ?_
      refine gs_post (ih (j + 1) h2 (by omega) w2) ?_
      rintro u ⟨q1, q2, q3⟩
      exact ⟨q1, (FS.of hF (by intro k hk; simp at hk; unfold cC; omega)).trans q2, q3⟩
theorem l_cr1 {m al : Nat} {a b c f g : Int32} (hP : P ≤ 8) (hX : ∀ e ∈ X, okE P e) (hsy : sy ≤ X.length) (hm : m ≤ sumOn (sz P) (X.drop sy)) (hal : al < 2 ^ 31) (hml : m ≤ al) (hB : sumOn (szF P P) X ≤ 16000) (hL : ∀ p, p < P → sumOn (szF P p) X ≤ 4000) : ∀ (r j : Nat) (h : ix_H), j + r = P + 1 → CV h (oE (nI P) a b c (b01 false) f g) (ls1 P X sy m j) (if P < j then ((fl P X).flatMap encB).take (nl P X sy m P) else (fl P X).flatMap encB) (unO P X sy) pr mk tp an →
    gs none (d + 3) mD_X4_crash (31, [(3, .int (nI j)), (0, .ref 0), (1, .int (nI m)), (2, .int (nI al))], [], h) (fun u => u.1 = some (.int (nI (al - m))) ∧ FS cC h u.2 ∧ CV u.2 (oE (nI P) a b c (b01 true) f (nI 0)) (ls2 P X sy m P) (((fl P X).flatMap encB).take (nl P X sy m P)) [] (fun k => if k < 32 then fgt (pr k) else pr k) (fun _ => -1) tp an) := by
  intro r
  induction r with
  | zero =>
    intro j h hj w
    obtain rfl : j = P + 1 := by omega
    rw [if_pos (by omega)] at w
    have w1 := w.1
    refine gs_n 32 a_X4_crash_31 rfl ?_
    refine gs_n 33 a_X4_crash_32 rfl ?_
    refine gs_get 36 a_X4_crash_33 f_4_146 (by first | assumption | exact hs_same _ _ _ | exact (hs_ne _ _ (by first | assumption | decide | omega)).trans (by first | assumption | exact hs_same _ _ _ | exact (hs_ne _ _ (by first | assumption | decide | omega)).trans (by first | assumption | exact hs_same _ _ _ | exact (hs_ne _ _ (by first | assumption | decide | omega)).trans (by first | assumption | exact hs_same _ _ _ | exact (hs_ne _ _ (by first | assumption | decide | omega)).trans (by first | assumption | exact hs_same _ _ _))))) rfl rfl ?_
    refine gs_ic 81 39 a_X4_crash_36 rfl rfl (fun c5 => ?_) (fun c5 => ?_)
    · refine gs_k (nI 0) 82 a_X4_crash_81 (by decide +kernel) rfl ?_
      refine gs_n 83 a_X4_crash_82 rfl ?_
      refine gs_w [(3, .int (nI 0)), (0, .ref 0), (1, .int (nI m)), (2, .int (nI al))] (by simp [ix_nd]) (by intro x hx; simp only [List.mem_cons, List.not_mem_nil, or_false] at hx; rcases hx with rfl | rfl | rfl | rfl <;> rfl) ?_
      refine l_cr2 hP hX hsy hm hal hml P 0 h (by omega) (w.cg ?_ (fun _ _ => rfl) (fun _ _ => rfl))
      intro p _
      unfold ls1 ls2
      by_cases y : p < P
      · rw [if_pos y, if_pos y, if_neg (by omega), if_pos (by omega)]
      · rw [if_neg y, if_neg y]
    · have c5 : ¬ nI P < nI (P + 1) := c5
      rw [nI_ltI (by omega) (by omega)] at c5
      omega
  | succ r ih =>
    intro j h hj w
    rw [if_neg (by omega)] at w
    have hjP : j ≤ P := by omega
    have w1 := w.1
    have hu := w.2.2.2.2.2.2.1
    have hu1 := hu.1
    obtain ⟨n1, n2, n3⟩ := nl_eq hsy hm j
    have hro := v_rowOf (d := d + 1) j hjP hP (fun q => ⟨fl j X, [], by unfold ls1; rw [if_pos q, if_neg (Nat.lt_irrefl _)]⟩) w
    have hlt : ∀ q : Nat, q ≤ P → sumOn (szF P q) X ≤ 16000 := fun q hq => by
      by_cases z : q = P
      · subst z; exact hB
      · have := hL q (by omega); omega
    have hlj := hlt j hjP
    have go : ∀ (R A N : Nat) (bs : List Nat), R = (if j < P then 16 + 6 * j + 1 else 8) → RowAt h R A N bs → bs.length = sumOn (szF P j) X → (∀ h2, Fr [R, A] h h2 → RowAt h2 R A N (bs.take (nl P X sy m j)) → FS cC h h2 ∧ CV h2 (oE (nI P) a b c (b01 false) f g) (ls1 P X sy m (j + 1)) (if P < j + 1 then ((fl P X).flatMap encB).take (nl P X sy m P) else (fl P X).flatMap encB) (unO P X sy) pr mk tp an) → gs none (d + 3) mD_X4_crash (44, [(3, .int (nI j)), (0, .ref 0), (1, .int (nI m)), (2, .int (nI al))], [.ref R], h) (fun u => u.1 = some (.int (nI (al - m))) ∧ FS cC h u.2 ∧ CV u.2 (oE (nI P) a b c (b01 true) f (nI 0)) (ls2 P X sy m P) (((fl P X).flatMap encB).take (nl P X sy m P)) [] (fun k => if k < 32 then fgt (pr k) else pr k) (fun _ => -1) tp an) := by
      intro R A N bs hR hrow hbl hnext
      have hr1 := hrow.1
      refine gs_n 46 a_X4_crash_44 rfl ?_
      refine gs_n 48 a_X4_crash_46 rfl ?_
      refine gs_n 50 a_X4_crash_48 rfl ?_
      refine gs_get 53 a_X4_crash_50 f_4_56 (by first | assumption | exact hs_same _ _ _ | exact (hs_ne _ _ (by first | assumption | decide | omega)).trans (by first | assumption | exact hs_same _ _ _ | exact (hs_ne _ _ (by first | assumption | decide | omega)).trans (by first | assumption | exact hs_same _ _ _ | exact (hs_ne _ _ (by first | assumption | decide | omega)).trans (by first | assumption | exact hs_same _ _ _ | exact (hs_ne _ _ (by first | assumption | decide | omega)).trans (by first | assumption | exact hs_same _ _ _))))) rfl rfl ?_
      refine gs_n 54 a_X4_crash_53 rfl ?_
      refine gs_get 57 a_X4_crash_54 f_4_36 (by first | assumption | exact hs_same _ _ _ | exact (hs_ne _ _ (by first | assumption | decide | omega)).trans (by first | assumption | exact hs_same _ _ _ | exact (hs_ne _ _ (by first | assumption | decide | omega)).trans (by first | assumption | exact hs_same _ _ _ | exact (hs_ne _ _ (by first | assumption | decide | omega)).trans (by first | assumption | exact hs_same _ _ _ | exact (hs_ne _ _ (by first | assumption | decide | omega)).trans (by first | assumption | exact hs_same _ _ _))))) rfl rfl ?_
      refine gs_n 58 a_X4_crash_57 rfl ?_
      refine gs_cv 61 a_X4_crash_58 k_4_153 q_X3_bytesOf (e_bytesOf j (by omega) hu) rfl rfl rfl (by simp [Value.category]) (by first | assumption | exact hs_same _ _ _ | exact (hs_ne _ _ (by first | assumption | decide | omega)).trans (by first | assumption | exact hs_same _ _ _ | exact (hs_ne _ _ (by first | assumption | decide | omega)).trans (by first | assumption | exact hs_same _ _ _ | exact (hs_ne _ _ (by first | assumption | decide | omega)).trans (by first | assumption | exact hs_same _ _ _ | exact (hs_ne _ _ (by first | assumption | decide | omega)).trans (by first | assumption | exact hs_same _ _ _))))) rfl (fun v h1 hp => ?_)
      cases hp
      refine gs_n 62 a_X4_crash_61 rfl ?_
      refine gs_n 63 a_X4_crash_62 rfl ?_
      refine gs_get 66 a_X4_crash_63 f_4_36 (by first | assumption | exact hs_same _ _ _ | exact (hs_ne _ _ (by first | assumption | decide | omega)).trans (by first | assumption | exact hs_same _ _ _ | exact (hs_ne _ _ (by first | assumption | decide | omega)).trans (by first | assumption | exact hs_same _ _ _ | exact (hs_ne _ _ (by first | assumption | decide | omega)).trans (by first | assumption | exact hs_same _ _ _ | exact (hs_ne _ _ (by first | assumption | decide | omega)).trans (by first | assumption | exact hs_same _ _ _))))) rfl rfl ?_
      refine gs_n 67 a_X4_crash_66 rfl ?_
      refine gs_n 68 a_X4_crash_67 rfl ?_
      refine gs_cv 71 a_X4_crash_68 k_4_156 q_X3_keptOf (e_keptOf j m (by omega) (by omega) hu) rfl rfl rfl (by simp [Value.category]) (by first | assumption | exact hs_same _ _ _ | exact (hs_ne _ _ (by first | assumption | decide | omega)).trans (by first | assumption | exact hs_same _ _ _ | exact (hs_ne _ _ (by first | assumption | decide | omega)).trans (by first | assumption | exact hs_same _ _ _ | exact (hs_ne _ _ (by first | assumption | decide | omega)).trans (by first | assumption | exact hs_same _ _ _ | exact (hs_ne _ _ (by first | assumption | decide | omega)).trans (by first | assumption | exact hs_same _ _ _))))) rfl (fun v h1 hp => ?_)
      cases hp
      refine gs_n 72 a_X4_crash_71 rfl ?_
      refine gs_top (nI (nl P X sy m j)) (by rw [hbl, pk_sub n1, nI_add, n2]) ?_
      refine gs_cv 75 a_X4_crash_72 k_4_159 q_X0_cutTo (e_cutTo (nl P X sy m j) (by omega) hrow) rfl rfl rfl (by simp [Value.category]) (by first | assumption | exact hs_same _ _ _ | exact (hs_ne _ _ (by first | assumption | decide | omega)).trans (by first | assumption | exact hs_same _ _ _ | exact (hs_ne _ _ (by first | assumption | decide | omega)).trans (by first | assumption | exact hs_same _ _ _ | exact (hs_ne _ _ (by first | assumption | decide | omega)).trans (by first | assumption | exact hs_same _ _ _ | exact (hs_ne _ _ (by first | assumption | decide | omega)).trans (by first | assumption | exact hs_same _ _ _))))) rfl (fun v h2 hp => ?_)
      obtain ⟨e1, hF, hr2⟩ := hp
      simp only at e1
      subst e1
      obtain ⟨hFS, w2⟩ := hnext h2 hF hr2
      first | refine gs_inc _ 78 a_X4_crash_75 rfl (Nat.le_of_ble_eq_true rfl) rfl ?_ | refine gs_n 78 a_X4_crash_75 rfl ?_
      refine gs_n 31 a_X4_crash_78 rfl ?_
      refine gs_w [(3, .int (nI (j + 1))), (0, .ref 0), (1, .int (nI m)), (2, .int (nI al))] (by simp [ix_nd]) (by intro x hx; simp only [List.mem_cons, List.not_mem_nil, or_false] at hx; rcases hx with rfl | rfl | rfl | rfl <;> rfl) ?_
      refine gs_post (ih (j + 1) h2 (by omega) w2) ?_
      rintro u ⟨q1, q2, q3⟩
      exact ⟨q1, hFS.trans q2, q3⟩
    refine gs_n 32 a_X4_crash_31 rfl ?_
    refine gs_n 33 a_X4_crash_32 rfl ?_
    refine gs_get 36 a_X4_crash_33 f_4_146 (by first | assumption | exact hs_same _ _ _ | exact (hs_ne _ _ (by first | assumption | decide | omega)).trans (by first | assumption | exact hs_same _ _ _ | exact (hs_ne _ _ (by first | assumption | decide | omega)).trans (by first | assumption | exact hs_same _ _ _ | exact (hs_ne _ _ (by first | assumption | decide | omega)).trans (by first | assumption | exact hs_same _ _ _ | exact (hs_ne _ _ (by first | assumption | decide | omega)).trans (by first | assumption | exact hs_same _ _ _))))) rfl rfl ?_
    refine gs_ic 81 39 a_X4_crash_36 rfl rfl (fun c5 => ?_) (fun c5 => ?_)
    · have c5 : nI P < nI j := c5
      rw [nI_ltI (by omega) (by omega)] at c5
      omega
    · refine gs_n 40 a_X4_crash_39 rfl ?_
      refine gs_n 41 a_X4_crash_40 rfl ?_
      refine gs_cv 44 a_X4_crash_41 k_4_149 q_X4_rowOf hro rfl rfl rfl (by simp [Value.category]) (by first | assumption | exact hs_same _ _ _ | exact (hs_ne _ _ (by first | assumption | decide | omega)).trans (by first | assumption | exact hs_same _ _ _ | exact (hs_ne _ _ (by first | assumption | decide | omega)).trans (by first | assumption | exact hs_same _ _ _ | exact (hs_ne _ _ (by first | assumption | decide | omega)).trans (by first | assumption | exact hs_same _ _ _ | exact (hs_ne _ _ (by first | assumption | decide | omega)).trans (by first | assumption | exact hs_same _ _ _))))) rfl (fun v h1 hp => ?_)
      cases hp
      by_cases z : j < P
      · have hl := w.2.2.2.2.2.2.2.2.2.1 j (by omega)
        simp only [ls1] at hl
        rw [if_pos z, if_neg (Nat.lt_irrefl _)] at hl
        have hl : LogAt h (16 + 6 * j) (fl j X) [] := hl
        have hr := hl.2.1
        rw [List.append_nil] at hr
        have hbl := bytesP_sum z hX
        unfold bytesP at hbl
        refine go _ (16 + 6 * j + 2) 4000 _ rfl (by rw [if_pos z]; exact hr) hbl ?_
        intro h2 hF hr2
        rw [if_pos z] at hF hr2
        have hlc := hl.crC hF hr2 (by omega)
        refine ⟨FS.of hF (by intro k hk; simp at hk; unfold cC; omega), ?_⟩
        rw [if_neg (by omega)]
        have w2 := w.log (p0 := j) (x := .inr (fl j X, nl P X sy m j)) (by omega) (FS.of hF (by intro k hk; simp at hk; omega)) hlc
        refine w2.cg ?_ (fun _ _ => rfl) (fun _ _ => rfl)
        intro k _
        unfold ls1
        by_cases x : k = j
        · subst x; rw [va_up_self, if_pos z, if_pos (by omega)]
        · rw [va_up_ne _ _ x]
          by_cases y : k < P
          · rw [if_pos y, if_pos y]
            by_cases v : k < j
            · rw [if_pos v, if_pos (by omega)]
            · rw [if_neg v, if_neg (by omega)]
          · rw [if_neg y, if_neg y]
      · obtain rfl : j = P := by omega
        have hr := w.2.2.2.2.2.1
        refine go _ 9 16000 _ rfl (by rw [if_neg z]; exact hr) (by rw [flatB_len, bytesB_sum]) ?_
        intro h2 hF hr2
        rw [if_neg z] at hF hr2
        refine ⟨FS.of hF cC_b, ?_⟩
        rw [if_pos (by omega)]
        have w2 := w.book hF hr2
        refine w2.cg ?_ (fun _ _ => rfl) (fun _ _ => rfl)
        intro k _
        unfold ls1
        by_cases y : k < j
        · rw [if_pos y, if_pos y, if_pos y, if_pos (by omega)]
        · rw [if_neg y, if_neg y]
theorem c_crash (x : Int32) (hs : SI (P, cap, tmo, clk, cl, cut, X, sy, torn, tE, tp, an)) (w : CS h (P, cap, tmo, clk, cl, cut, X, sy, torn, tE, tp, an)) : ev (d + 4) n_X4_crash [.ref 0, .int x] h (fun u => u.1 = some (.int (F_crash (P, cap, tmo, clk, cl, cut, X, sy, torn, tE, tp, an) x).1) ∧ FS cC h u.2 ∧ CS u.2 (F_crash (P, cap, tmo, clk, cl, cut, X, sy, torn, tE, tp, an) x).2) := by
  obtain ⟨s1, s2, s3, s4, s5, s6, s7, s8, s9, hv, s11, -⟩ := hs
  have w' : CE h P cap tmo clk cl cut X sy torn tE tp an (tS cl P X) := w
  have w1 := w'.obj'
  have hu := w'.uns
  have hu1 := hu.1
  have htl : tot (unO P X sy) ≤ 3280 * 100 := by
    have h1 := tot_le (B := 100) (fun x hx => (hu.2.2.2.2.1 x hx).2)
    have h2 := Nat.mul_le_mul_right 100 hu.2.2.2.2.2
    omega
  rw [unO_tot] at hu1 htl
  simp only [F_crash]
  refine ev_of q_X4_crash (Nat.le_of_ble_eq_true rfl) ?_
  refine gs_n 1 a_X4_crash_0 rfl ?_
  refine gs_get 4 a_X4_crash_1 f_4_63 (by first | assumption | exact hs_same _ _ _ | exact (hs_ne _ _ (by first | assumption | decide | omega)).trans (by first | assumption | exact hs_same _ _ _ | exact (hs_ne _ _ (by first | assumption | decide | omega)).trans (by first | assumption | exact hs_same _ _ _ | exact (hs_ne _ _ (by first | assumption | decide | omega)).trans (by first | assumption | exact hs_same _ _ _ | exact (hs_ne _ _ (by first | assumption | decide | omega)).trans (by first | assumption | exact hs_same _ _ _))))) rfl rfl ?_
  refine gs_if 9 7 a_X4_crash_4 rfl rfl (fun c4 => ?_) (fun c4 => ?_)
  · have c4 := (b01_0 _).mp c4
    subst c4
    obtain ⟨rfl, hnd⟩ := s11 rfl
    rw [if_neg (by simp)]
    refine gs_n 10 a_X4_crash_9 rfl ?_
    refine gs_get 13 a_X4_crash_10 f_4_36 (by first | assumption | exact hs_same _ _ _ | exact (hs_ne _ _ (by first | assumption | decide | omega)).trans (by first | assumption | exact hs_same _ _ _ | exact (hs_ne _ _ (by first | assumption | decide | omega)).trans (by first | assumption | exact hs_same _ _ _ | exact (hs_ne _ _ (by first | assumption | decide | omega)).trans (by first | assumption | exact hs_same _ _ _ | exact (hs_ne _ _ (by first | assumption | decide | omega)).trans (by first | assumption | exact hs_same _ _ _))))) rfl rfl ?_
    refine gs_get 16 a_X4_crash_13 f_4_142 (by first | assumption | exact hs_same _ _ _ | exact (hs_ne _ _ (by first | assumption | decide | omega)).trans (by first | assumption | exact hs_same _ _ _ | exact (hs_ne _ _ (by first | assumption | decide | omega)).trans (by first | assumption | exact hs_same _ _ _ | exact (hs_ne _ _ (by first | assumption | decide | omega)).trans (by first | assumption | exact hs_same _ _ _ | exact (hs_ne _ _ (by first | assumption | decide | omega)).trans (by first | assumption | exact hs_same _ _ _))))) rfl rfl ?_
    refine gs_n 17 a_X4_crash_16 rfl ?_
    refine gs_n 18 a_X4_crash_17 rfl ?_
    refine gs_if 26 21 a_X4_crash_18 rfl rfl (fun c18 => ?_) (fun c18 => ?_)
    · have c18 : x < 0 := c18
      rw [lt0_iff] at c18
      rw [if_pos (Or.inl c18)]
      refine gs_k (-2) 28 a_X4_crash_26 (by decide +kernel) rfl ?_
      refine gs_iret a_X4_crash_28 rfl rfl ?_
      exact ⟨rfl, FS.rf _ _, w⟩
    · have c18 : ¬ x < 0 := c18
      rw [lt0_iff] at c18
      have hx : x = nI (kn x) := nI_ofInt (by omega)
      have hx3 : kn x < 2 ^ 31 := by have := x.toInt_lt; unfold kn; omega
      generalize hkk : kn x = m at *
      subst hx
      refine gs_n 22 a_X4_crash_21 rfl ?_
      refine gs_n 23 a_X4_crash_22 rfl ?_
      refine gs_ic 29 26 a_X4_crash_23 rfl rfl (fun c23 => ?_) (fun c23 => ?_)
      · have c23 : nI m ≤ nI (sumOn (sz P) (X.drop sy)) := c23
        rw [le_lit (by omega), nI_toInt (by omega)] at c23
        have hm : m ≤ sumOn (sz P) (X.drop sy) := by omega
        rw [if_neg (by omega)]
        have hg := pv_all hv
        obtain ⟨n, ep, tx, bg, ba, ad, lc, de, mq, nx, la, en, hT⟩ := told_ex P X
        rw [hT] at hg
        have hX := hg.1.2.2.2.1
        have hB : sumOn (szF P P) X ≤ 16000 := by rw [← bytesB_sum, ← hg.1.1]; have := hg.2.2.2.2.1; omega
        have hL : ∀ p, p < P → sumOn (szF P p) X ≤ 4000 := fun p hp => by rw [← bytesP_sum hp hX]; have := hg.2.2.2.2.2 p hp; omega
        obtain ⟨pr, mk, wc⟩ := w'.cw
        have wv : CV h (oE (nI P) (nI cap) (nI tmo) (nI clk) (b01 false) (nI cut) (nI (tS false P X).2.2.2.2.2.2.2.2.2.1)) _ _ _ _ _ _ _ := wc.cv
        rw [btO_0, List.append_nil, tnO_0] at wv
        refine gs_k (nI 0) 30 a_X4_crash_29 (by decide +kernel) rfl ?_
        refine gs_n 31 a_X4_crash_30 rfl ?_
        refine gs_w [(3, .int (nI 0)), (0, .ref 0), (1, .int (nI m)), (2, .int (nI (sumOn (sz P) (X.drop sy))))] (by simp [ix_nd]) (by intro x hx; simp only [List.mem_cons, List.not_mem_nil, or_false] at hx; rcases hx with rfl | rfl | rfl | rfl <;> rfl) ?_
        refine gs_post (l_cr1 (m := m) s2 hX s9 hm (by omega) hm hB hL (P + 1) 0 h (by omega) (wv.cg (ls' := ls1 P X sy m 0) ?_ (fun _ _ => rfl) (fun _ _ => rfl))) ?_
        · intro p _
          unfold ls1 lgO
          by_cases y : p < P
          · rw [if_pos y, if_pos y, if_neg (by omega)]
          · rw [if_neg y, if_neg y]
        · rintro u ⟨q1, q2, q3⟩
          refine ⟨q1, q2, ?_⟩
          have hck := crp_ok (P := P) (X.drop sy) m hm
          rw [List.length_drop] at hck
          have hYk : ∀ e ∈ X.take (sy + (crp P (X.drop sy) m).1), okE P e := fun e he => hX e (List.mem_of_mem_take he)
          have hYl : (X.take (sy + (crp P (X.drop sy) m).1)).length = sy + (crp P (X.drop sy) m).1 := by rw [List.length_take]; omega
          show CE u.2 P cap tmo clk true cut (X.take (sy + (crp P (X.drop sy) m).1)) (sy + (crp P (X.drop sy) m).1) (crp P (X.drop sy) m).2 (X.getD (sy + (crp P (X.drop sy) m).1) en0) tp an (tS true P (X.take (sy + (crp P (X.drop sy) m).1)))
          refine CE_of (pr := pr) (nx0 := 0) rfl ?_ ?_ hYk (by omega)
          · rw [cut_book s9 hm] at q3
            rw [show unO P (X.take (sy + (crp P (X.drop sy) m).1)) (sy + (crp P (X.drop sy) m).1) = [] by unfold unO; rw [List.drop_of_length_le (by omega)]; rfl]
            refine q3.cg ?_ ?_ (fun _ _ => rfl)
            · intro p hp8
              unfold ls2 lgO
              by_cases y : p < P
              · rw [if_pos y, if_pos y, if_pos y]
              · rw [if_neg y, if_neg y]
                unfold tnO
                rw [if_neg (fun q => y q.1)]
            · intro k hk
              simp only [hk, if_true]
          · have hsc := wc.2.1
            unfold scOk at hsc ⊢
            simp only at hsc ⊢
            omega
      · have c23 : ¬ nI m ≤ nI (sumOn (sz P) (X.drop sy)) := c23
        rw [le_lit (by omega), nI_toInt (by omega)] at c23
        rw [if_pos (by omega)]
        refine gs_k (-2) 28 a_X4_crash_26 (by decide +kernel) rfl ?_
        refine gs_iret a_X4_crash_28 rfl rfl ?_
        exact ⟨rfl, FS.rf _ _, w⟩
  · have c4 := (b01_ne _).mp c4
    rw [if_pos c4]
    refine gs_k (-1) 8 a_X4_crash_7 (by decide +kernel) rfl ?_
    refine gs_iret a_X4_crash_8 rfl rfl ?_
    exact ⟨rfl, FS.rf _ _, w⟩
end CD
