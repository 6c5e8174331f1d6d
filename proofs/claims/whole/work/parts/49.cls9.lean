/-! OnceLedger: what tells of the state -/
section C9
variable {d : Nat} {h h' : ix_H} {P cap tmo clk cut sy torn : Nat} {cl : Bool} {X : List En} {tE : En} {tp an : List Nat} {T : TS}
theorem totOf_un {f : Nat} : totOf (unO P X sy) f = sumOn (szF P f) (X.drop sy) := by
  unfold totOf unO sumOn
  induction X.drop sy with
  | nil => rfl
  | cons a l ih =>
    simp only [List.map_cons, List.filter_cons, List.sum_cons]
    by_cases z : eF a = f
    · rw [if_pos (by simpa using z)]
      simp only [List.map_cons, List.sum_cons]
      rw [ih]
      unfold szF
      rw [if_pos z]
    · rw [if_neg (by simpa using z), ih]
      unfold szF
      rw [if_neg z, Nat.zero_add]
theorem CE.book (w : CE h P cap tmo clk cl cut X sy torn tE tp an T) : RowAt h 8 9 16000 (bytesF P torn tE X P) := by
  obtain ⟨n, ep, tx, bg, ba, ad, lc, de, mq, nx, la, en⟩ := T
  obtain ⟨pr, mk, w, -⟩ := w
  unfold bytesF
  rw [if_neg (Nat.lt_irrefl _)]
  exact w.2.2.2.2.2.2.1
theorem CE.row (w : CE h P cap tmo clk cl cut X sy torn tE tp an T) {p : Nat} (hp : p < P) : RowAt h (16 + 6 * p + 1) (16 + 6 * p + 2) 4000 (bytesF P torn tE X p) := by
  have := (w.log hp).2.1
  unfold bytesF
  rw [if_pos hp]
  exact this
theorem c_isReg (x : Int32) (hb : ∀ k, k < 32 → T.2.1 k ≤ 1000) (w : CE h P cap tmo clk cl cut X sy torn tE tp an T) : ev (d + 2) n_X4_isRegistered [.ref 0, .int x] h (fun u => u = (some (.int (b01 (rgs T x))), h)) := by
  obtain ⟨n, ep, tx, bg, ba, ad, lc, de, mq, nx, la, en⟩ := T
  obtain ⟨pr, mk, w, hpr, hmk, hsy⟩ := w
  have hR : isR pr x = rgs (n, ep, tx, bg, ba, ad, lc, de, mq, nx, la, en) x := by
    unfold isR rgs
    cases hk : isK x with
    | false => rfl
    | true =>
      have h1 : 0 ≤ x.toInt ∧ x.toInt < 32 := of_decide_eq_true hk
      have h2 := (hpr (kn x) (by unfold kn; omega)).1
      have h3 := hb (kn x) (by unfold kn; omega)
      simp only at h3
      unfold kn at h2 h3 ⊢
      rw [h2]
      congr 2
      exact decide_eq_decide.mpr (m1_no (Nat.lt_of_le_of_lt h3 (by decide)))
  rw [← hR]
  exact e_isReg x w
theorem rgs_kn {x : Int32} (hr : rgs T x = true) : kn x < 32 ∧ x = nI (kn x) ∧ T.2.1 (kn x) ≠ 0 := by
  unfold rgs at hr
  rw [Bool.and_eq_true] at hr
  have h1 := isK_kn hr.1
  exact ⟨h1.1, h1.2, by simpa using hr.2⟩
theorem c_partition (p what : Int32) (hs : SI (P, cap, tmo, clk, cl, cut, X, sy, torn, tE, tp, an)) (w : CS h (P, cap, tmo, clk, cl, cut, X, sy, torn, tE, tp, an)) : ev (d + 5) n_X4_partition [.ref 0, .int p, .int what] h (fun u => u.1 = some (.int (F_partition (P, cap, tmo, clk, cl, cut, X, sy, torn, tE, tp, an) p what)) ∧ FS cC h u.2 ∧ CS u.2 (P, cap, tmo, clk, cl, cut, X, sy, torn, tE, tp, an)) := by
  obtain ⟨s1, s2, s3, s4, s5, s6, s7, s8, s9, hv, s11, -⟩ := hs
  have w' : CE h P cap tmo clk cl cut X sy torn tE tp an (tS cl P X) := w
  have w1 := w'.obj'
  have hu := w'.uns
  have hu1 := hu.1
  simp only [F_partition]
  refine ev_of q_X4_partition (Nat.le_of_ble_eq_true rfl) ?_
  refine gs_n 1 a_X4_partition_0 rfl ?_
  refine gs_n 2 a_X4_partition_1 rfl ?_
  refine gs_cv 5 a_X4_partition_2 k_4_125 q_X4_isPartition (c_isPart p w') rfl rfl rfl (by simp [Value.category]) (by first | assumption | exact hs_same _ _ _ | exact (hs_ne _ _ (by first | assumption | decide | omega)).trans (by first | assumption | exact hs_same _ _ _ | exact (hs_ne _ _ (by first | assumption | decide | omega)).trans (by first | assumption | exact hs_same _ _ _ | exact (hs_ne _ _ (by first | assumption | decide | omega)).trans (by first | assumption | exact hs_same _ _ _ | exact (hs_ne _ _ (by first | assumption | decide | omega)).trans (by first | assumption | exact hs_same _ _ _))))) rfl (fun v h1 hp => ?_)
  cases hp
  refine gs_if 10 8 a_X4_partition_5 rfl rfl (fun c5 => ?_) (fun c5 => ?_)
  · have c5 := (b01_ne _).mp c5
    rw [if_neg (by rw [c5]; simp)]
    obtain ⟨hp, hpx⟩ := isPn_kn c5
    generalize hkp : kn p = pp at *
    subst hpx
    obtain ⟨f, hf, hf'⟩ := w'.lga
    have hl := w'.log hp
    have hl1 := hl.1
    have hlen := hl.len
    have hr1 := (w'.row hp).1
    refine gs_n 11 a_X4_partition_10 rfl ?_
    refine gs_get 14 a_X4_partition_11 f_4_26 (by first | assumption | exact hs_same _ _ _ | exact (hs_ne _ _ (by first | assumption | decide | omega)).trans (by first | assumption | exact hs_same _ _ _ | exact (hs_ne _ _ (by first | assumption | decide | omega)).trans (by first | assumption | exact hs_same _ _ _ | exact (hs_ne _ _ (by first | assumption | decide | omega)).trans (by first | assumption | exact hs_same _ _ _ | exact (hs_ne _ _ (by first | assumption | decide | omega)).trans (by first | assumption | exact hs_same _ _ _))))) rfl rfl ?_
    refine gs_n 15 a_X4_partition_14 rfl ?_
    refine gs_aa pp (16 + 6 * pp) 16 a_X4_partition_15 (by first | assumption | exact hs_same _ _ _ | exact (hs_ne _ _ (by first | assumption | decide | omega)).trans (by first | assumption | exact hs_same _ _ _ | exact (hs_ne _ _ (by first | assumption | decide | omega)).trans (by first | assumption | exact hs_same _ _ _ | exact (hs_ne _ _ (by first | assumption | decide | omega)).trans (by first | assumption | exact hs_same _ _ _ | exact (hs_ne _ _ (by first | assumption | decide | omega)).trans (by first | assumption | exact hs_same _ _ _))))) rfl (by omega) (by decide) (by simp) (hf' pp (by omega)) rfl ?_
    refine gs_n 17 a_X4_partition_16 rfl ?_
    refine gs_n 18 a_X4_partition_17 rfl ?_
    rcases sw_cases what 6 with ⟨i, hi, rfl⟩ | hd
    · rw [swi_n (by exact hi) (by simp)]
      rcases (by omega : i = 0 ∨ i = 1 ∨ i = 2 ∨ i = 3 ∨ i = 4 ∨ i = 5) with z | z | z | z | z | z <;> subst z
      · refine gs_n 56 a_X4_partition_18 rfl ?_
        refine gs_n 57 a_X4_partition_56 rfl ?_
        refine gs_get 60 a_X4_partition_57 f_4_180 (by first | assumption | exact hs_same _ _ _ | exact (hs_ne _ _ (by first | assumption | decide | omega)).trans (by first | assumption | exact hs_same _ _ _ | exact (hs_ne _ _ (by first | assumption | decide | omega)).trans (by first | assumption | exact hs_same _ _ _ | exact (hs_ne _ _ (by first | assumption | decide | omega)).trans (by first | assumption | exact hs_same _ _ _ | exact (hs_ne _ _ (by first | assumption | decide | omega)).trans (by first | assumption | exact hs_same _ _ _))))) rfl rfl ?_
        refine gs_iret a_X4_partition_60 rfl rfl ?_
        exact ⟨rfl, FS.rf _ _, w⟩
      · refine gs_n 61 a_X4_partition_18 rfl ?_
        refine gs_n 62 a_X4_partition_61 rfl ?_
        refine gs_get 65 a_X4_partition_62 f_4_63 (by first | assumption | exact hs_same _ _ _ | exact (hs_ne _ _ (by first | assumption | decide | omega)).trans (by first | assumption | exact hs_same _ _ _ | exact (hs_ne _ _ (by first | assumption | decide | omega)).trans (by first | assumption | exact hs_same _ _ _ | exact (hs_ne _ _ (by first | assumption | decide | omega)).trans (by first | assumption | exact hs_same _ _ _ | exact (hs_ne _ _ (by first | assumption | decide | omega)).trans (by first | assumption | exact hs_same _ _ _))))) rfl rfl ?_
        refine gs_if 72 68 a_X4_partition_65 rfl rfl (fun c => ?_) (fun c => ?_)
        · have c := (b01_0 _).mp c
          subst c
          refine gs_n 73 a_X4_partition_72 rfl ?_
          refine gs_cv 76 a_X4_partition_73 k_4_183 q_X1_stable (e_stable hl) rfl rfl rfl (by simp [Value.category]) (by first | assumption | exact hs_same _ _ _ | exact (hs_ne _ _ (by first | assumption | decide | omega)).trans (by first | assumption | exact hs_same _ _ _ | exact (hs_ne _ _ (by first | assumption | decide | omega)).trans (by first | assumption | exact hs_same _ _ _ | exact (hs_ne _ _ (by first | assumption | decide | omega)).trans (by first | assumption | exact hs_same _ _ _ | exact (hs_ne _ _ (by first | assumption | decide | omega)).trans (by first | assumption | exact hs_same _ _ _))))) rfl (fun v h2 hp => ?_)
          obtain ⟨e1, hF, hl2, -⟩ := hp
          simp only at e1
          subst e1
          refine gs_iret a_X4_partition_76 rfl rfl ?_
          exact ⟨rfl, FS.of hF (by intro k hk; simp at hk; unfold cC; omega), w'.setL hp hF hl2⟩
        · have c := (b01_ne _).mp c
          subst c
          refine gs_k (-1) 69 a_X4_partition_68 (by decide +kernel) rfl ?_
          refine gs_n 76 a_X4_partition_69 rfl ?_
          refine gs_iret a_X4_partition_76 rfl rfl ?_
          exact ⟨rfl, FS.rf _ _, w⟩
      · refine gs_n 77 a_X4_partition_18 rfl ?_
        refine gs_n 78 a_X4_partition_77 rfl ?_
        refine gs_get 81 a_X4_partition_78 f_4_186 (by first | assumption | exact hs_same _ _ _ | exact (hs_ne _ _ (by first | assumption | decide | omega)).trans (by first | assumption | exact hs_same _ _ _ | exact (hs_ne _ _ (by first | assumption | decide | omega)).trans (by first | assumption | exact hs_same _ _ _ | exact (hs_ne _ _ (by first | assumption | decide | omega)).trans (by first | assumption | exact hs_same _ _ _ | exact (hs_ne _ _ (by first | assumption | decide | omega)).trans (by first | assumption | exact hs_same _ _ _))))) rfl rfl ?_
        refine gs_get 84 a_X4_partition_81 f_4_56 (by first | assumption | exact hs_same _ _ _ | exact (hs_ne _ _ (by first | assumption | decide | omega)).trans (by first | assumption | exact hs_same _ _ _ | exact (hs_ne _ _ (by first | assumption | decide | omega)).trans (by first | assumption | exact hs_same _ _ _ | exact (hs_ne _ _ (by first | assumption | decide | omega)).trans (by first | assumption | exact hs_same _ _ _ | exact (hs_ne _ _ (by first | assumption | decide | omega)).trans (by first | assumption | exact hs_same _ _ _))))) rfl rfl ?_
        refine gs_iret a_X4_partition_84 rfl rfl ?_
        exact ⟨rfl, FS.rf _ _, w⟩
      · refine gs_n 85 a_X4_partition_18 rfl ?_
        refine gs_n 86 a_X4_partition_85 rfl ?_
        refine gs_get 89 a_X4_partition_86 f_4_36 (by first | assumption | exact hs_same _ _ _ | exact (hs_ne _ _ (by first | assumption | decide | omega)).trans (by first | assumption | exact hs_same _ _ _ | exact (hs_ne _ _ (by first | assumption | decide | omega)).trans (by first | assumption | exact hs_same _ _ _ | exact (hs_ne _ _ (by first | assumption | decide | omega)).trans (by first | assumption | exact hs_same _ _ _ | exact (hs_ne _ _ (by first | assumption | decide | omega)).trans (by first | assumption | exact hs_same _ _ _))))) rfl rfl ?_
        refine gs_n 90 a_X4_partition_89 rfl ?_
        refine gs_cv 93 a_X4_partition_90 k_4_153 q_X3_bytesOf (e_bytesOf pp (by omega) hu) rfl rfl rfl (by simp [Value.category]) (by first | assumption | exact hs_same _ _ _ | exact (hs_ne _ _ (by first | assumption | decide | omega)).trans (by first | assumption | exact hs_same _ _ _ | exact (hs_ne _ _ (by first | assumption | decide | omega)).trans (by first | assumption | exact hs_same _ _ _ | exact (hs_ne _ _ (by first | assumption | decide | omega)).trans (by first | assumption | exact hs_same _ _ _ | exact (hs_ne _ _ (by first | assumption | decide | omega)).trans (by first | assumption | exact hs_same _ _ _))))) rfl (fun v h1 hp => ?_)
        cases hp
        rw [totOf_un]
        refine gs_iret a_X4_partition_93 rfl rfl ?_
        exact ⟨rfl, FS.rf _ _, w⟩
      · refine gs_n 94 a_X4_partition_18 rfl ?_
        refine gs_n 95 a_X4_partition_94 rfl ?_
        refine gs_get 98 a_X4_partition_95 f_4_63 (by first | assumption | exact hs_same _ _ _ | exact (hs_ne _ _ (by first | assumption | decide | omega)).trans (by first | assumption | exact hs_same _ _ _ | exact (hs_ne _ _ (by first | assumption | decide | omega)).trans (by first | assumption | exact hs_same _ _ _ | exact (hs_ne _ _ (by first | assumption | decide | omega)).trans (by first | assumption | exact hs_same _ _ _ | exact (hs_ne _ _ (by first | assumption | decide | omega)).trans (by first | assumption | exact hs_same _ _ _))))) rfl rfl ?_
        refine gs_if 105 101 a_X4_partition_98 rfl rfl (fun c => ?_) (fun c => ?_)
        · have c := (b01_0 _).mp c
          subst c
          refine gs_n 106 a_X4_partition_105 rfl ?_
          refine gs_cv 109 a_X4_partition_106 k_4_189 q_X1_committedEntries (e_comE hl) rfl rfl rfl (by simp [Value.category]) (by first | assumption | exact hs_same _ _ _ | exact (hs_ne _ _ (by first | assumption | decide | omega)).trans (by first | assumption | exact hs_same _ _ _ | exact (hs_ne _ _ (by first | assumption | decide | omega)).trans (by first | assumption | exact hs_same _ _ _ | exact (hs_ne _ _ (by first | assumption | decide | omega)).trans (by first | assumption | exact hs_same _ _ _ | exact (hs_ne _ _ (by first | assumption | decide | omega)).trans (by first | assumption | exact hs_same _ _ _))))) rfl (fun v h2 hp => ?_)
          obtain ⟨e1, hF, hl2⟩ := hp
          simp only at e1
          subst e1
          refine gs_iret a_X4_partition_109 rfl rfl ?_
          exact ⟨rfl, FS.of hF (by intro k hk; simp at hk; unfold cC; omega), w'.setL hp hF hl2⟩
        · have c := (b01_ne _).mp c
          subst c
          refine gs_k (-1) 102 a_X4_partition_101 (by decide +kernel) rfl ?_
          refine gs_n 109 a_X4_partition_102 rfl ?_
          refine gs_iret a_X4_partition_109 rfl rfl ?_
          exact ⟨rfl, FS.rf _ _, w⟩
      · refine gs_n 110 a_X4_partition_18 rfl ?_
        refine gs_n 111 a_X4_partition_110 rfl ?_
        refine gs_get 114 a_X4_partition_111 f_4_63 (by first | assumption | exact hs_same _ _ _ | exact (hs_ne _ _ (by first | assumption | decide | omega)).trans (by first | assumption | exact hs_same _ _ _ | exact (hs_ne _ _ (by first | assumption | decide | omega)).trans (by first | assumption | exact hs_same _ _ _ | exact (hs_ne _ _ (by first | assumption | decide | omega)).trans (by first | assumption | exact hs_same _ _ _ | exact (hs_ne _ _ (by first | assumption | decide | omega)).trans (by first | assumption | exact hs_same _ _ _))))) rfl rfl ?_
        refine gs_if 121 117 a_X4_partition_114 rfl rfl (fun c => ?_) (fun c => ?_)
        · have c := (b01_0 _).mp c
          subst c
          have hA : ev (d + 4) n_X4_openThatAdded [.ref 0, .int (nI pp)] h (fun u => u = (some (.int (nI (cntA (told P X) pp))), h)) := by
            rw [tS_f] at w'
            generalize told P X = T at *
            obtain ⟨n, ep, tx, bg, ba, ad, lc, de, mq, nx, la, en⟩ := T
            obtain ⟨pr, mk, w', hpr, hmk, hsy⟩ := w'
            have : cntA (n, ep, tx, bg, ba, ad, lc, de, mq, nx, la, en) pp = cnt (isA pr pp) 32 := by
              unfold cntA
              refine cnt_same (fun k hk => ?_)
              unfold isA
              rw [(hpr k hk).2.2.2.2.1]
            rw [this]
            exact e_openA pp w'
          refine gs_n 122 a_X4_partition_121 rfl ?_
          refine gs_n 123 a_X4_partition_122 rfl ?_
          refine gs_cv 126 a_X4_partition_123 k_4_192 q_X4_openThatAdded hA rfl rfl rfl (by simp [Value.category]) (by first | assumption | exact hs_same _ _ _ | exact (hs_ne _ _ (by first | assumption | decide | omega)).trans (by first | assumption | exact hs_same _ _ _ | exact (hs_ne _ _ (by first | assumption | decide | omega)).trans (by first | assumption | exact hs_same _ _ _ | exact (hs_ne _ _ (by first | assumption | decide | omega)).trans (by first | assumption | exact hs_same _ _ _ | exact (hs_ne _ _ (by first | assumption | decide | omega)).trans (by first | assumption | exact hs_same _ _ _))))) rfl (fun v h1 hp => ?_)
          cases hp
          refine gs_iret a_X4_partition_126 rfl rfl ?_
          exact ⟨rfl, FS.rf _ _, w⟩
        · have c := (b01_ne _).mp c
          subst c
          refine gs_k (-1) 118 a_X4_partition_117 (by decide +kernel) rfl ?_
          refine gs_n 126 a_X4_partition_118 rfl ?_
          refine gs_iret a_X4_partition_126 rfl rfl ?_
          exact ⟨rfl, FS.rf _ _, w⟩
    · rw [swi_d (by simp only [List.length_cons, List.length_nil]; omega)]
      refine gs_swd 127 a_X4_partition_18 (by omega) rfl ?_
      refine gs_k (-1) 128 a_X4_partition_127 (by decide +kernel) rfl ?_
      refine gs_iret a_X4_partition_128 rfl rfl ?_
      exact ⟨rfl, FS.rf _ _, w⟩
  · have c5 : isPn P p = false := (b01_0 _).mp (Classical.byContradiction c5)
    rw [if_pos c5]
    refine gs_k (-1) 9 a_X4_partition_8 (by decide +kernel) rfl ?_
    refine gs_iret a_X4_partition_9 rfl rfl ?_
    exact ⟨rfl, FS.rf _ _, w⟩
theorem c_entry (p o what : Int32) (hs : SI (P, cap, tmo, clk, cl, cut, X, sy, torn, tE, tp, an)) (w : CS h (P, cap, tmo, clk, cl, cut, X, sy, torn, tE, tp, an)) : ev (d + 3) n_X4_entry [.ref 0, .int p, .int o, .int what] h (fun u => u = (some (.int (F_entry (P, cap, tmo, clk, cl, cut, X, sy, torn, tE, tp, an) p o what)), h)) := by
  obtain ⟨s1, s2, s3, s4, s5, s6, s7, s8, s9, hv, s11, -⟩ := hs
  have w' : CE h P cap tmo clk cl cut X sy torn tE tp an (tS cl P X) := w
  have w1 := w'.obj'
  simp only [F_entry]
  refine ev_of q_X4_entry (Nat.le_of_ble_eq_true rfl) ?_
  refine gs_n 1 a_X4_entry_0 rfl ?_
  refine gs_n 2 a_X4_entry_1 rfl ?_
  refine gs_cv 5 a_X4_entry_2 k_4_125 q_X4_isPartition (c_isPart p w') rfl rfl rfl (by simp [Value.category]) (by first | assumption | exact hs_same _ _ _ | exact (hs_ne _ _ (by first | assumption | decide | omega)).trans (by first | assumption | exact hs_same _ _ _ | exact (hs_ne _ _ (by first | assumption | decide | omega)).trans (by first | assumption | exact hs_same _ _ _ | exact (hs_ne _ _ (by first | assumption | decide | omega)).trans (by first | assumption | exact hs_same _ _ _ | exact (hs_ne _ _ (by first | assumption | decide | omega)).trans (by first | assumption | exact hs_same _ _ _))))) rfl (fun v h1 hp => ?_)
  cases hp
  refine gs_if 21 8 a_X4_entry_5 rfl rfl (fun c5 => ?_) (fun c5 => ?_)
  · have c5 := (b01_0 _).mp c5
    refine gs_k (-1) 22 a_X4_entry_21 (by decide +kernel) rfl ?_
    refine gs_iret a_X4_entry_22 rfl rfl ?_
    rw [if_pos (by rw [c5]; rfl)]
  · have c5 := (b01_ne _).mp c5
    obtain ⟨hp, hpx⟩ := isPn_kn c5
    rw [c5, Bool.true_and]
    generalize hkp : kn p = pp at *
    subst hpx
    obtain ⟨f, hf, hf'⟩ := w'.lga
    have hl := w'.log hp
    have hl1 := hl.1
    have hlen := hl.len
    refine gs_n 9 a_X4_entry_8 rfl ?_
    refine gs_get 12 a_X4_entry_9 f_4_26 (by first | assumption | exact hs_same _ _ _ | exact (hs_ne _ _ (by first | assumption | decide | omega)).trans (by first | assumption | exact hs_same _ _ _ | exact (hs_ne _ _ (by first | assumption | decide | omega)).trans (by first | assumption | exact hs_same _ _ _ | exact (hs_ne _ _ (by first | assumption | decide | omega)).trans (by first | assumption | exact hs_same _ _ _ | exact (hs_ne _ _ (by first | assumption | decide | omega)).trans (by first | assumption | exact hs_same _ _ _))))) rfl rfl ?_
    refine gs_n 13 a_X4_entry_12 rfl ?_
    refine gs_aa pp (16 + 6 * pp) 14 a_X4_entry_13 (by first | assumption | exact hs_same _ _ _ | exact (hs_ne _ _ (by first | assumption | decide | omega)).trans (by first | assumption | exact hs_same _ _ _ | exact (hs_ne _ _ (by first | assumption | decide | omega)).trans (by first | assumption | exact hs_same _ _ _ | exact (hs_ne _ _ (by first | assumption | decide | omega)).trans (by first | assumption | exact hs_same _ _ _ | exact (hs_ne _ _ (by first | assumption | decide | omega)).trans (by first | assumption | exact hs_same _ _ _))))) rfl (by omega) (by decide) (by simp) (hf' pp (by omega)) rfl ?_
    refine gs_n 15 a_X4_entry_14 rfl ?_
    refine gs_cv 18 a_X4_entry_15 k_4_195 q_X1_has (e_has o hl) rfl rfl rfl (by simp [Value.category]) (by first | assumption | exact hs_same _ _ _ | exact (hs_ne _ _ (by first | assumption | decide | omega)).trans (by first | assumption | exact hs_same _ _ _ | exact (hs_ne _ _ (by first | assumption | decide | omega)).trans (by first | assumption | exact hs_same _ _ _ | exact (hs_ne _ _ (by first | assumption | decide | omega)).trans (by first | assumption | exact hs_same _ _ _ | exact (hs_ne _ _ (by first | assumption | decide | omega)).trans (by first | assumption | exact hs_same _ _ _))))) rfl (fun v h1 hp => ?_)
    cases hp
    refine gs_if 23 21 a_X4_entry_18 rfl rfl (fun c18 => ?_) (fun c18 => ?_)
    · have c18 := (b01_ne _).mp c18
      have c18' : 0 ≤ o.toInt ∧ o.toInt < (fl pp X).length := of_decide_eq_true c18
      rw [if_neg (by rw [c18]; simp)]
      have ho : kn o < (fl pp X).length := by unfold kn; omega
      have hox : o = nI (kn o) := nI_ofInt c18'.1
      generalize hko : kn o = oo at *
      subst hox
      have hok := hl.2.2.2.2.2 _ (getD_mem ho)
      have hel := encP_len hok
      have hf6 := encP_f ((fl pp X).getD oo en0)
      refine gs_n 24 a_X4_entry_23 rfl ?_
      refine gs_get 27 a_X4_entry_24 f_4_26 (by first | assumption | exact hs_same _ _ _ | exact (hs_ne _ _ (by first | assumption | decide | omega)).trans (by first | assumption | exact hs_same _ _ _ | exact (hs_ne _ _ (by first | assumption | decide | omega)).trans (by first | assumption | exact hs_same _ _ _ | exact (hs_ne _ _ (by first | assumption | decide | omega)).trans (by first | assumption | exact hs_same _ _ _ | exact (hs_ne _ _ (by first | assumption | decide | omega)).trans (by first | assumption | exact hs_same _ _ _))))) rfl rfl ?_
      refine gs_n 28 a_X4_entry_27 rfl ?_
      refine gs_aa pp (16 + 6 * pp) 29 a_X4_entry_28 (by first | assumption | exact hs_same _ _ _ | exact (hs_ne _ _ (by first | assumption | decide | omega)).trans (by first | assumption | exact hs_same _ _ _ | exact (hs_ne _ _ (by first | assumption | decide | omega)).trans (by first | assumption | exact hs_same _ _ _ | exact (hs_ne _ _ (by first | assumption | decide | omega)).trans (by first | assumption | exact hs_same _ _ _ | exact (hs_ne _ _ (by first | assumption | decide | omega)).trans (by first | assumption | exact hs_same _ _ _))))) rfl (by omega) (by decide) (by simp) (hf' pp (by omega)) rfl ?_
      refine gs_n 31 a_X4_entry_29 rfl ?_
      refine gs_n 32 a_X4_entry_31 rfl ?_
      rcases sw_cases what 5 with ⟨i, hi, rfl⟩ | hd
      · rw [swi_n (by exact hi) (by simp)]
        rcases (by omega : i = 0 ∨ i = 1 ∨ i = 2 ∨ i = 3 ∨ i = 4) with z | z | z | z | z <;> subst z
        · refine gs_n 68 a_X4_entry_32 rfl ?_
          refine gs_n 70 a_X4_entry_68 rfl ?_
          refine gs_n 71 a_X4_entry_70 rfl ?_
          refine gs_k (nI 6) 73 a_X4_entry_71 (by decide +kernel) rfl ?_
          refine gs_k (nI 1) 74 a_X4_entry_73 (by decide +kernel) rfl ?_
          refine gs_cv 77 a_X4_entry_74 k_4_198 q_X1_field (e_field oo 6 1 ho (by omega) hl) rfl rfl rfl (by simp [Value.category]) (by first | assumption | exact hs_same _ _ _ | exact (hs_ne _ _ (by first | assumption | decide | omega)).trans (by first | assumption | exact hs_same _ _ _ | exact (hs_ne _ _ (by first | assumption | decide | omega)).trans (by first | assumption | exact hs_same _ _ _ | exact (hs_ne _ _ (by first | assumption | decide | omega)).trans (by first | assumption | exact hs_same _ _ _ | exact (hs_ne _ _ (by first | assumption | decide | omega)).trans (by first | assumption | exact hs_same _ _ _))))) rfl (fun v h1 hp => ?_)
          cases hp
          rw [hf6.2.1, beN1 (by have := hok.1; omega)]
          refine gs_iret a_X4_entry_77 rfl rfl ?_
          rfl
        · refine gs_n 78 a_X4_entry_32 rfl ?_
          refine gs_n 80 a_X4_entry_78 rfl ?_
          refine gs_n 81 a_X4_entry_80 rfl ?_
          refine gs_k (nI 7) 83 a_X4_entry_81 (by decide +kernel) rfl ?_
          refine gs_k (nI 1) 84 a_X4_entry_83 (by decide +kernel) rfl ?_
          refine gs_cv 87 a_X4_entry_84 k_4_198 q_X1_field (e_field oo 7 1 ho (by omega) hl) rfl rfl rfl (by simp [Value.category]) (by first | assumption | exact hs_same _ _ _ | exact (hs_ne _ _ (by first | assumption | decide | omega)).trans (by first | assumption | exact hs_same _ _ _ | exact (hs_ne _ _ (by first | assumption | decide | omega)).trans (by first | assumption | exact hs_same _ _ _ | exact (hs_ne _ _ (by first | assumption | decide | omega)).trans (by first | assumption | exact hs_same _ _ _ | exact (hs_ne _ _ (by first | assumption | decide | omega)).trans (by first | assumption | exact hs_same _ _ _))))) rfl (fun v h1 hp => ?_)
          cases hp
          rw [hf6.2.2.1, beN1 (by have := hok.2.1; omega)]
          refine gs_iret a_X4_entry_87 rfl rfl ?_
          rfl
        · refine gs_n 88 a_X4_entry_32 rfl ?_
          refine gs_n 90 a_X4_entry_88 rfl ?_
          refine gs_n 91 a_X4_entry_90 rfl ?_
          refine gs_k (nI 8) 93 a_X4_entry_91 (by decide +kernel) rfl ?_
          refine gs_k (nI 2) 94 a_X4_entry_93 (by decide +kernel) rfl ?_
          refine gs_cv 97 a_X4_entry_94 k_4_198 q_X1_field (e_field oo 8 2 ho (by omega) hl) rfl rfl rfl (by simp [Value.category]) (by first | assumption | exact hs_same _ _ _ | exact (hs_ne _ _ (by first | assumption | decide | omega)).trans (by first | assumption | exact hs_same _ _ _ | exact (hs_ne _ _ (by first | assumption | decide | omega)).trans (by first | assumption | exact hs_same _ _ _ | exact (hs_ne _ _ (by first | assumption | decide | omega)).trans (by first | assumption | exact hs_same _ _ _ | exact (hs_ne _ _ (by first | assumption | decide | omega)).trans (by first | assumption | exact hs_same _ _ _))))) rfl (fun v h1 hp => ?_)
          cases hp
          rw [hf6.2.2.2.1, beN2 hok.2.2.1]
          refine gs_iret a_X4_entry_97 rfl rfl ?_
          rfl
        · refine gs_n 98 a_X4_entry_32 rfl ?_
          refine gs_n 100 a_X4_entry_98 rfl ?_
          refine gs_n 101 a_X4_entry_100 rfl ?_
          refine gs_k (nI 10) 103 a_X4_entry_101 (by decide +kernel) rfl ?_
          refine gs_k (nI 4) 104 a_X4_entry_103 (by decide +kernel) rfl ?_
          refine gs_cv 107 a_X4_entry_104 k_4_198 q_X1_field (e_field oo 10 4 ho (by omega) hl) rfl rfl rfl (by simp [Value.category]) (by first | assumption | exact hs_same _ _ _ | exact (hs_ne _ _ (by first | assumption | decide | omega)).trans (by first | assumption | exact hs_same _ _ _ | exact (hs_ne _ _ (by first | assumption | decide | omega)).trans (by first | assumption | exact hs_same _ _ _ | exact (hs_ne _ _ (by first | assumption | decide | omega)).trans (by first | assumption | exact hs_same _ _ _ | exact (hs_ne _ _ (by first | assumption | decide | omega)).trans (by first | assumption | exact hs_same _ _ _))))) rfl (fun v h1 hp => ?_)
          cases hp
          rw [hf6.2.2.2.2.1, beN4 hok.2.2.2.1]
          refine gs_iret a_X4_entry_107 rfl rfl ?_
          rfl
        · refine gs_n 108 a_X4_entry_32 rfl ?_
          refine gs_n 110 a_X4_entry_108 rfl ?_
          refine gs_n 111 a_X4_entry_110 rfl ?_
          refine gs_k (nI 4) 112 a_X4_entry_111 (by decide +kernel) rfl ?_
          refine gs_k (nI 2) 113 a_X4_entry_112 (by decide +kernel) rfl ?_
          refine gs_cv 116 a_X4_entry_113 k_4_198 q_X1_field (e_field oo 4 2 ho (by omega) hl) rfl rfl rfl (by simp [Value.category]) (by first | assumption | exact hs_same _ _ _ | exact (hs_ne _ _ (by first | assumption | decide | omega)).trans (by first | assumption | exact hs_same _ _ _ | exact (hs_ne _ _ (by first | assumption | decide | omega)).trans (by first | assumption | exact hs_same _ _ _ | exact (hs_ne _ _ (by first | assumption | decide | omega)).trans (by first | assumption | exact hs_same _ _ _ | exact (hs_ne _ _ (by first | assumption | decide | omega)).trans (by first | assumption | exact hs_same _ _ _))))) rfl (fun v h1 hp => ?_)
          cases hp
          rw [hf6.1, beN2 (by have := hok.2.2.2.2.2.1; omega)]
          refine gs_iret a_X4_entry_116 rfl rfl ?_
          rfl
      · rw [swi_d (by simp only [List.length_cons, List.length_nil]; omega)]
        refine gs_swd 117 a_X4_entry_32 (by omega) rfl ?_
        refine gs_k (-1) 118 a_X4_entry_117 (by decide +kernel) rfl ?_
        refine gs_iret a_X4_entry_118 rfl rfl ?_
        rfl
    · have c18 : decide (0 ≤ o.toInt ∧ o.toInt < (fl pp X).length) = false := (b01_0 _).mp (Classical.byContradiction c18)
      refine gs_k (-1) 22 a_X4_entry_21 (by decide +kernel) rfl ?_
      refine gs_iret a_X4_entry_22 rfl rfl ?_
      rw [if_pos c18]
theorem c_producer (x what : Int32) (hs : SI (P, cap, tmo, clk, cl, cut, X, sy, torn, tE, tp, an)) (w : CS h (P, cap, tmo, clk, cl, cut, X, sy, torn, tE, tp, an)) : ev (d + 3) n_X4_producer [.ref 0, .int x, .int what] h (fun u => u = (some (.int (F_producer (P, cap, tmo, clk, cl, cut, X, sy, torn, tE, tp, an) x what)), h)) := by
  obtain ⟨s1, s2, s3, s4, s5, s6, s7, s8, s9, hv, s11, -⟩ := hs
  have w' : CE h P cap tmo clk cl cut X sy torn tE tp an (tS cl P X) := w
  have w1 := w'.obj'
  simp only [F_producer]
  refine ev_of q_X4_producer (Nat.le_of_ble_eq_true rfl) ?_
  refine gs_n 1 a_X4_producer_0 rfl ?_
  refine gs_get 4 a_X4_producer_1 f_4_63 (by first | assumption | exact hs_same _ _ _ | exact (hs_ne _ _ (by first | assumption | decide | omega)).trans (by first | assumption | exact hs_same _ _ _ | exact (hs_ne _ _ (by first | assumption | decide | omega)).trans (by first | assumption | exact hs_same _ _ _ | exact (hs_ne _ _ (by first | assumption | decide | omega)).trans (by first | assumption | exact hs_same _ _ _ | exact (hs_ne _ _ (by first | assumption | decide | omega)).trans (by first | assumption | exact hs_same _ _ _))))) rfl rfl ?_
  refine gs_if 15 7 a_X4_producer_4 rfl rfl (fun c4 => ?_) (fun c4 => ?_)
  · have c4 := (b01_ne _).mp c4
    refine gs_k (-1) 16 a_X4_producer_15 (by decide +kernel) rfl ?_
    refine gs_iret a_X4_producer_16 rfl rfl ?_
    rw [if_pos (by rw [c4]; rfl)]
  · have c4 : cl = false := (b01_0 _).mp (Classical.byContradiction c4)
    subst c4
    rw [tS_f] at w' w1
    refine gs_n 8 a_X4_producer_7 rfl ?_
    refine gs_n 9 a_X4_producer_8 rfl ?_
    refine gs_cv 12 a_X4_producer_9 k_4_202 q_X4_isRegistered (c_isReg (T := told P X) x (fun k hk => (T_b hv false k hk).1) w') rfl rfl rfl (by simp [Value.category]) (by first | assumption | exact hs_same _ _ _ | exact (hs_ne _ _ (by first | assumption | decide | omega)).trans (by first | assumption | exact hs_same _ _ _ | exact (hs_ne _ _ (by first | assumption | decide | omega)).trans (by first | assumption | exact hs_same _ _ _ | exact (hs_ne _ _ (by first | assumption | decide | omega)).trans (by first | assumption | exact hs_same _ _ _ | exact (hs_ne _ _ (by first | assumption | decide | omega)).trans (by first | assumption | exact hs_same _ _ _))))) rfl (fun v h1 hp => ?_)
    cases hp
    refine gs_if 17 15 a_X4_producer_12 rfl rfl (fun c12 => ?_) (fun c12 => ?_)
    · have c12 := (b01_ne _).mp c12
      obtain ⟨hk, hx, he⟩ := rgs_kn c12
      rw [if_neg (by rw [c12]; simp)]
      generalize hkk : kn x = k at *
      subst hx
      obtain ⟨y, hc⟩ := w'.cell' hk
      obtain ⟨f, hf, hf'⟩ := w'.pra
      unfold pcell at hc
      refine gs_n 18 a_X4_producer_17 rfl ?_
      refine gs_get 21 a_X4_producer_18 f_4_42 (by first | assumption | exact hs_same _ _ _ | exact (hs_ne _ _ (by first | assumption | decide | omega)).trans (by first | assumption | exact hs_same _ _ _ | exact (hs_ne _ _ (by first | assumption | decide | omega)).trans (by first | assumption | exact hs_same _ _ _ | exact (hs_ne _ _ (by first | assumption | decide | omega)).trans (by first | assumption | exact hs_same _ _ _ | exact (hs_ne _ _ (by first | assumption | decide | omega)).trans (by first | assumption | exact hs_same _ _ _))))) rfl rfl ?_
      refine gs_n 22 a_X4_producer_21 rfl ?_
      refine gs_aa k (64 + k) 23 a_X4_producer_22 (by first | assumption | exact hs_same _ _ _ | exact (hs_ne _ _ (by first | assumption | decide | omega)).trans (by first | assumption | exact hs_same _ _ _ | exact (hs_ne _ _ (by first | assumption | decide | omega)).trans (by first | assumption | exact hs_same _ _ _ | exact (hs_ne _ _ (by first | assumption | decide | omega)).trans (by first | assumption | exact hs_same _ _ _ | exact (hs_ne _ _ (by first | assumption | decide | omega)).trans (by first | assumption | exact hs_same _ _ _))))) rfl (by omega) (by decide) (by simp) (hf' k hk) rfl ?_
      refine gs_n 24 a_X4_producer_23 rfl ?_
      refine gs_n 25 a_X4_producer_24 rfl ?_
      rcases sw_cases what 5 with ⟨i, hi, rfl⟩ | hd
      · rw [swi_n (by exact hi) (by simp)]
        rcases (by omega : i = 0 ∨ i = 1 ∨ i = 2 ∨ i = 3 ∨ i = 4) with z | z | z | z | z <;> subst z
        · refine gs_n 60 a_X4_producer_25 rfl ?_
          refine gs_n 61 a_X4_producer_60 rfl ?_
          refine gs_get 64 a_X4_producer_61 f_4_88 (by first | assumption | exact hs_same _ _ _ | exact (hs_ne _ _ (by first | assumption | decide | omega)).trans (by first | assumption | exact hs_same _ _ _ | exact (hs_ne _ _ (by first | assumption | decide | omega)).trans (by first | assumption | exact hs_same _ _ _ | exact (hs_ne _ _ (by first | assumption | decide | omega)).trans (by first | assumption | exact hs_same _ _ _ | exact (hs_ne _ _ (by first | assumption | decide | omega)).trans (by first | assumption | exact hs_same _ _ _))))) rfl rfl ?_
          refine gs_iret a_X4_producer_64 rfl rfl ?_
          rfl
        · refine gs_n 65 a_X4_producer_25 rfl ?_
          refine gs_n 66 a_X4_producer_65 rfl ?_
          refine gs_get 69 a_X4_producer_66 f_4_205 (by first | assumption | exact hs_same _ _ _ | exact (hs_ne _ _ (by first | assumption | decide | omega)).trans (by first | assumption | exact hs_same _ _ _ | exact (hs_ne _ _ (by first | assumption | decide | omega)).trans (by first | assumption | exact hs_same _ _ _ | exact (hs_ne _ _ (by first | assumption | decide | omega)).trans (by first | assumption | exact hs_same _ _ _ | exact (hs_ne _ _ (by first | assumption | decide | omega)).trans (by first | assumption | exact hs_same _ _ _))))) rfl rfl ?_
          refine gs_iret a_X4_producer_69 rfl rfl ?_
          rfl
        · refine gs_n 70 a_X4_producer_25 rfl ?_
          refine gs_n 71 a_X4_producer_70 rfl ?_
          refine gs_get 74 a_X4_producer_71 f_4_208 (by first | assumption | exact hs_same _ _ _ | exact (hs_ne _ _ (by first | assumption | decide | omega)).trans (by first | assumption | exact hs_same _ _ _ | exact (hs_ne _ _ (by first | assumption | decide | omega)).trans (by first | assumption | exact hs_same _ _ _ | exact (hs_ne _ _ (by first | assumption | decide | omega)).trans (by first | assumption | exact hs_same _ _ _ | exact (hs_ne _ _ (by first | assumption | decide | omega)).trans (by first | assumption | exact hs_same _ _ _))))) rfl rfl ?_
          refine gs_iret a_X4_producer_74 rfl rfl ?_
          rfl
        · refine gs_n 75 a_X4_producer_25 rfl ?_
          refine gs_n 76 a_X4_producer_75 rfl ?_
          refine gs_get 79 a_X4_producer_76 f_4_211 (by first | assumption | exact hs_same _ _ _ | exact (hs_ne _ _ (by first | assumption | decide | omega)).trans (by first | assumption | exact hs_same _ _ _ | exact (hs_ne _ _ (by first | assumption | decide | omega)).trans (by first | assumption | exact hs_same _ _ _ | exact (hs_ne _ _ (by first | assumption | decide | omega)).trans (by first | assumption | exact hs_same _ _ _ | exact (hs_ne _ _ (by first | assumption | decide | omega)).trans (by first | assumption | exact hs_same _ _ _))))) rfl rfl ?_
          refine gs_iret a_X4_producer_79 rfl rfl ?_
          rfl
        · refine gs_n 80 a_X4_producer_25 rfl ?_
          refine gs_n 81 a_X4_producer_80 rfl ?_
          refine gs_get 84 a_X4_producer_81 f_4_214 (by first | assumption | exact hs_same _ _ _ | exact (hs_ne _ _ (by first | assumption | decide | omega)).trans (by first | assumption | exact hs_same _ _ _ | exact (hs_ne _ _ (by first | assumption | decide | omega)).trans (by first | assumption | exact hs_same _ _ _ | exact (hs_ne _ _ (by first | assumption | decide | omega)).trans (by first | assumption | exact hs_same _ _ _ | exact (hs_ne _ _ (by first | assumption | decide | omega)).trans (by first | assumption | exact hs_same _ _ _))))) rfl rfl ?_
          refine gs_iret a_X4_producer_84 rfl rfl ?_
          rfl
      · rw [swi_d (by simp only [List.length_cons, List.length_nil]; omega)]
        refine gs_swd 85 a_X4_producer_25 (by omega) rfl ?_
        refine gs_k (-1) 86 a_X4_producer_85 (by decide +kernel) rfl ?_
        refine gs_iret a_X4_producer_86 rfl rfl ?_
        rfl
    · have c12 : rgs (told P X) x = false := (b01_0 _).mp (Classical.byContradiction c12)
      refine gs_k (-1) 16 a_X4_producer_15 (by decide +kernel) rfl ?_
      refine gs_iret a_X4_producer_16 rfl rfl ?_
      rw [if_pos (by rw [c12]; rfl)]
theorem c_next (x p : Int32) (hs : SI (P, cap, tmo, clk, cl, cut, X, sy, torn, tE, tp, an)) (w : CS h (P, cap, tmo, clk, cl, cut, X, sy, torn, tE, tp, an)) : ev (d + 6) n_X4_next [.ref 0, .int x, .int p] h (fun u => u = (some (.int (F_next (P, cap, tmo, clk, cl, cut, X, sy, torn, tE, tp, an) x p)), h)) := by
  obtain ⟨s1, s2, s3, s4, s5, s6, s7, s8, s9, hv, s11, -⟩ := hs
  have w' : CE h P cap tmo clk cl cut X sy torn tE tp an (tS cl P X) := w
  have w1 := w'.obj'
  simp only [F_next]
  refine ev_of q_X4_next (Nat.le_of_ble_eq_true rfl) ?_
  refine gs_n 1 a_X4_next_0 rfl ?_
  refine gs_get 4 a_X4_next_1 f_4_63 (by first | assumption | exact hs_same _ _ _ | exact (hs_ne _ _ (by first | assumption | decide | omega)).trans (by first | assumption | exact hs_same _ _ _ | exact (hs_ne _ _ (by first | assumption | decide | omega)).trans (by first | assumption | exact hs_same _ _ _ | exact (hs_ne _ _ (by first | assumption | decide | omega)).trans (by first | assumption | exact hs_same _ _ _ | exact (hs_ne _ _ (by first | assumption | decide | omega)).trans (by first | assumption | exact hs_same _ _ _))))) rfl rfl ?_
  refine gs_if 23 7 a_X4_next_4 rfl rfl (fun c4 => ?_) (fun c4 => ?_)
  · have c4 := (b01_ne _).mp c4
    refine gs_k (-1) 24 a_X4_next_23 (by decide +kernel) rfl ?_
    refine gs_iret a_X4_next_24 rfl rfl ?_
    rw [if_pos (by rw [c4]; rfl)]
  · have c4 : cl = false := (b01_0 _).mp (Classical.byContradiction c4)
    subst c4
    rw [tS_f] at w' w1
    refine gs_n 8 a_X4_next_7 rfl ?_
    refine gs_n 9 a_X4_next_8 rfl ?_
    refine gs_cv 12 a_X4_next_9 k_4_202 q_X4_isRegistered (c_isReg (T := told P X) x (fun k hk => (T_b hv false k hk).1) w') rfl rfl rfl (by simp [Value.category]) (by first | assumption | exact hs_same _ _ _ | exact (hs_ne _ _ (by first | assumption | decide | omega)).trans (by first | assumption | exact hs_same _ _ _ | exact (hs_ne _ _ (by first | assumption | decide | omega)).trans (by first | assumption | exact hs_same _ _ _ | exact (hs_ne _ _ (by first | assumption | decide | omega)).trans (by first | assumption | exact hs_same _ _ _ | exact (hs_ne _ _ (by first | assumption | decide | omega)).trans (by first | assumption | exact hs_same _ _ _))))) rfl (fun v h1 hp => ?_)
    cases hp
    refine gs_if 23 15 a_X4_next_12 rfl rfl (fun c12 => ?_) (fun c12 => ?_)
    · have c12 := (b01_0 _).mp c12
      refine gs_k (-1) 24 a_X4_next_23 (by decide +kernel) rfl ?_
      refine gs_iret a_X4_next_24 rfl rfl ?_
      rw [if_pos (by rw [c12]; rfl)]
    · have c12 := (b01_ne _).mp c12
      obtain ⟨hk, hx, he⟩ := rgs_kn c12
      have hTb := (T_b hv false _ hk).1
      rw [tS_f] at hTb
      refine gs_n 16 a_X4_next_15 rfl ?_
      refine gs_n 17 a_X4_next_16 rfl ?_
      refine gs_cv 20 a_X4_next_17 k_4_125 q_X4_isPartition (c_isPart p w') rfl rfl rfl (by simp [Value.category]) (by first | assumption | exact hs_same _ _ _ | exact (hs_ne _ _ (by first | assumption | decide | omega)).trans (by first | assumption | exact hs_same _ _ _ | exact (hs_ne _ _ (by first | assumption | decide | omega)).trans (by first | assumption | exact hs_same _ _ _ | exact (hs_ne _ _ (by first | assumption | decide | omega)).trans (by first | assumption | exact hs_same _ _ _ | exact (hs_ne _ _ (by first | assumption | decide | omega)).trans (by first | assumption | exact hs_same _ _ _))))) rfl (fun v h1 hp => ?_)
      cases hp
      refine gs_if 25 23 a_X4_next_20 rfl rfl (fun c20 => ?_) (fun c20 => ?_)
      · have c20 := (b01_ne _).mp c20
        obtain ⟨hp, hpx⟩ := isPn_kn c20
        rw [if_neg (by rw [c12, c20]; simp)]
        generalize hkp : kn p = pp at *
        generalize hkk : kn x = k at *
        subst hpx
        subst hx
        obtain ⟨y, hc⟩ := w'.cell' hk
        obtain ⟨f, hf, hf'⟩ := w'.pra
        obtain ⟨fl0, hfl, hfl'⟩ := w'.lga
        have hl := w'.log hp
        have hl1 := hl.1
        unfold pcell at hc
        rw [m1_p he] at hc
        refine gs_n 26 a_X4_next_25 rfl ?_
        refine gs_get 29 a_X4_next_26 f_4_26 (by first | assumption | exact hs_same _ _ _ | exact (hs_ne _ _ (by first | assumption | decide | omega)).trans (by first | assumption | exact hs_same _ _ _ | exact (hs_ne _ _ (by first | assumption | decide | omega)).trans (by first | assumption | exact hs_same _ _ _ | exact (hs_ne _ _ (by first | assumption | decide | omega)).trans (by first | assumption | exact hs_same _ _ _ | exact (hs_ne _ _ (by first | assumption | decide | omega)).trans (by first | assumption | exact hs_same _ _ _))))) rfl rfl ?_
        refine gs_n 30 a_X4_next_29 rfl ?_
        refine gs_aa pp (16 + 6 * pp) 31 a_X4_next_30 (by first | assumption | exact hs_same _ _ _ | exact (hs_ne _ _ (by first | assumption | decide | omega)).trans (by first | assumption | exact hs_same _ _ _ | exact (hs_ne _ _ (by first | assumption | decide | omega)).trans (by first | assumption | exact hs_same _ _ _ | exact (hs_ne _ _ (by first | assumption | decide | omega)).trans (by first | assumption | exact hs_same _ _ _ | exact (hs_ne _ _ (by first | assumption | decide | omega)).trans (by first | assumption | exact hs_same _ _ _))))) rfl (by omega) (by decide) (by simp) (hfl' pp (by omega)) rfl ?_
        refine gs_n 32 a_X4_next_31 rfl ?_
        refine gs_n 33 a_X4_next_32 rfl ?_
        refine gs_get 36 a_X4_next_33 f_4_42 (by first | assumption | exact hs_same _ _ _ | exact (hs_ne _ _ (by first | assumption | decide | omega)).trans (by first | assumption | exact hs_same _ _ _ | exact (hs_ne _ _ (by first | assumption | decide | omega)).trans (by first | assumption | exact hs_same _ _ _ | exact (hs_ne _ _ (by first | assumption | decide | omega)).trans (by first | assumption | exact hs_same _ _ _ | exact (hs_ne _ _ (by first | assumption | decide | omega)).trans (by first | assumption | exact hs_same _ _ _))))) rfl rfl ?_
        refine gs_n 37 a_X4_next_36 rfl ?_
        refine gs_aa k (64 + k) 38 a_X4_next_37 (by first | assumption | exact hs_same _ _ _ | exact (hs_ne _ _ (by first | assumption | decide | omega)).trans (by first | assumption | exact hs_same _ _ _ | exact (hs_ne _ _ (by first | assumption | decide | omega)).trans (by first | assumption | exact hs_same _ _ _ | exact (hs_ne _ _ (by first | assumption | decide | omega)).trans (by first | assumption | exact hs_same _ _ _ | exact (hs_ne _ _ (by first | assumption | decide | omega)).trans (by first | assumption | exact hs_same _ _ _))))) rfl (by omega) (by decide) (by simp) (hf' k hk) rfl ?_
        refine gs_get 41 a_X4_next_38 f_4_88 (by first | assumption | exact hs_same _ _ _ | exact (hs_ne _ _ (by first | assumption | decide | omega)).trans (by first | assumption | exact hs_same _ _ _ | exact (hs_ne _ _ (by first | assumption | decide | omega)).trans (by first | assumption | exact hs_same _ _ _ | exact (hs_ne _ _ (by first | assumption | decide | omega)).trans (by first | assumption | exact hs_same _ _ _ | exact (hs_ne _ _ (by first | assumption | decide | omega)).trans (by first | assumption | exact hs_same _ _ _))))) rfl rfl ?_
        refine gs_cv 44 a_X4_next_41 k_4_217 q_X1_nextOf (e_nextOf k ((told P X).2.1 k - 1) (by omega) (by omega) hl) rfl rfl rfl (by simp [Value.category]) (by first | assumption | exact hs_same _ _ _ | exact (hs_ne _ _ (by first | assumption | decide | omega)).trans (by first | assumption | exact hs_same _ _ _ | exact (hs_ne _ _ (by first | assumption | decide | omega)).trans (by first | assumption | exact hs_same _ _ _ | exact (hs_ne _ _ (by first | assumption | decide | omega)).trans (by first | assumption | exact hs_same _ _ _ | exact (hs_ne _ _ (by first | assumption | decide | omega)).trans (by first | assumption | exact hs_same _ _ _))))) rfl (fun v h1 hp => ?_)
        cases hp
        refine gs_iret a_X4_next_44 rfl rfl ?_
        rfl
      · have c20 : isPn P p = false := (b01_0 _).mp (Classical.byContradiction c20)
        refine gs_k (-1) 24 a_X4_next_23 (by decide +kernel) rfl ?_
        refine gs_iret a_X4_next_24 rfl rfl ?_
        rw [if_pos (by rw [c20]; simp)]
theorem c_byteOf (f i : Int32) (hs : SI (P, cap, tmo, clk, cl, cut, X, sy, torn, tE, tp, an)) (w : CS h (P, cap, tmo, clk, cl, cut, X, sy, torn, tE, tp, an)) : ev (d + 3) n_X4_byteOf [.ref 0, .int f, .int i] h (fun u => u = (some (.int (F_byteOf (P, cap, tmo, clk, cl, cut, X, sy, torn, tE, tp, an) f i)), h)) := by
  obtain ⟨s1, s2, s3, s4, s5, s6, s7, s8, s9, hv, s11, -⟩ := hs
  have w' : CE h P cap tmo clk cl cut X sy torn tE tp an (tS cl P X) := w
  have w1 := w'.obj'
  simp only [F_byteOf]
  refine ev_of q_X4_byteOf (Nat.le_of_ble_eq_true rfl) ?_
  refine gs_n 1 a_X4_byteOf_0 rfl ?_
  refine gs_if 12 4 a_X4_byteOf_1 rfl rfl (fun c1 => ?_) (fun c1 => ?_)
  · have c1 : f < 0 := c1
    rw [lt0_iff] at c1
    refine gs_k (-1) 13 a_X4_byteOf_12 (by decide +kernel) rfl ?_
    refine gs_iret a_X4_byteOf_13 rfl rfl ?_
    rw [if_pos (Or.inl c1)]
  · have c1 : ¬ f < 0 := c1
    rw [lt0_iff] at c1
    refine gs_n 5 a_X4_byteOf_4 rfl ?_
    refine gs_n 6 a_X4_byteOf_5 rfl ?_
    refine gs_get 9 a_X4_byteOf_6 f_4_146 (by first | assumption | exact hs_same _ _ _ | exact (hs_ne _ _ (by first | assumption | decide | omega)).trans (by first | assumption | exact hs_same _ _ _ | exact (hs_ne _ _ (by first | assumption | decide | omega)).trans (by first | assumption | exact hs_same _ _ _ | exact (hs_ne _ _ (by first | assumption | decide | omega)).trans (by first | assumption | exact hs_same _ _ _ | exact (hs_ne _ _ (by first | assumption | decide | omega)).trans (by first | assumption | exact hs_same _ _ _))))) rfl rfl ?_
    refine gs_ic 14 12 a_X4_byteOf_9 rfl rfl (fun c9 => ?_) (fun c9 => ?_)
    · have c9 : f ≤ nI P := c9
      rw [le_lit (by omega)] at c9
      rw [if_neg (by omega)]
      have hf : kn f ≤ P := by unfold kn; omega
      have hfx : f = nI (kn f) := nI_ofInt (by omega)
      generalize hkf : kn f = ff0 at *
      subst hfx
      have hro : ev (d + 2) n_X4_rowOf [.ref 0, .int (nI ff0)] h (fun u => u = (some (.ref (if ff0 < P then 16 + 6 * ff0 + 1 else 8)), h)) := by
        generalize tS cl P X = T at *
        obtain ⟨n, ep, tx, bg, ba, ad, lc, de, mq, nx, la, en⟩ := T
        obtain ⟨pr, mk, w', hpr, hmk, hsy⟩ := w'
        exact e_rowOf ff0 hf w'
      by_cases z : ff0 < P
      · rw [if_pos z] at hro
        have hr := w'.row z
        have hr1 := hr.1
        refine gs_n 15 a_X4_byteOf_14 rfl ?_
        refine gs_n 16 a_X4_byteOf_15 rfl ?_
        refine gs_cv 19 a_X4_byteOf_16 k_4_149 q_X4_rowOf hro rfl rfl rfl (by simp [Value.category]) (by first | assumption | exact hs_same _ _ _ | exact (hs_ne _ _ (by first | assumption | decide | omega)).trans (by first | assumption | exact hs_same _ _ _ | exact (hs_ne _ _ (by first | assumption | decide | omega)).trans (by first | assumption | exact hs_same _ _ _ | exact (hs_ne _ _ (by first | assumption | decide | omega)).trans (by first | assumption | exact hs_same _ _ _ | exact (hs_ne _ _ (by first | assumption | decide | omega)).trans (by first | assumption | exact hs_same _ _ _))))) rfl (fun v h1 hp => ?_)
        cases hp
        refine gs_n 20 a_X4_byteOf_19 rfl ?_
        refine gs_cv 23 a_X4_byteOf_20 k_4_139 q_X0_at (e_at i hr) rfl rfl rfl (by simp [Value.category]) (by first | assumption | exact hs_same _ _ _ | exact (hs_ne _ _ (by first | assumption | decide | omega)).trans (by first | assumption | exact hs_same _ _ _ | exact (hs_ne _ _ (by first | assumption | decide | omega)).trans (by first | assumption | exact hs_same _ _ _ | exact (hs_ne _ _ (by first | assumption | decide | omega)).trans (by first | assumption | exact hs_same _ _ _ | exact (hs_ne _ _ (by first | assumption | decide | omega)).trans (by first | assumption | exact hs_same _ _ _))))) rfl (fun v h1 hp => ?_)
        cases hp
        refine gs_iret a_X4_byteOf_23 rfl rfl ?_
        rfl
      · rw [if_neg z] at hro
        obtain rfl : ff0 = P := by omega
        have hr := w'.book
        have hr1 := hr.1
        refine gs_n 15 a_X4_byteOf_14 rfl ?_
        refine gs_n 16 a_X4_byteOf_15 rfl ?_
        refine gs_cv 19 a_X4_byteOf_16 k_4_149 q_X4_rowOf hro rfl rfl rfl (by simp [Value.category]) (by first | assumption | exact hs_same _ _ _ | exact (hs_ne _ _ (by first | assumption | decide | omega)).trans (by first | assumption | exact hs_same _ _ _ | exact (hs_ne _ _ (by first | assumption | decide | omega)).trans (by first | assumption | exact hs_same _ _ _ | exact (hs_ne _ _ (by first | assumption | decide | omega)).trans (by first | assumption | exact hs_same _ _ _ | exact (hs_ne _ _ (by first | assumption | decide | omega)).trans (by first | assumption | exact hs_same _ _ _))))) rfl (fun v h1 hp => ?_)
        cases hp
        refine gs_n 20 a_X4_byteOf_19 rfl ?_
        refine gs_cv 23 a_X4_byteOf_20 k_4_139 q_X0_at (e_at i hr) rfl rfl rfl (by simp [Value.category]) (by first | assumption | exact hs_same _ _ _ | exact (hs_ne _ _ (by first | assumption | decide | omega)).trans (by first | assumption | exact hs_same _ _ _ | exact (hs_ne _ _ (by first | assumption | decide | omega)).trans (by first | assumption | exact hs_same _ _ _ | exact (hs_ne _ _ (by first | assumption | decide | omega)).trans (by first | assumption | exact hs_same _ _ _ | exact (hs_ne _ _ (by first | assumption | decide | omega)).trans (by first | assumption | exact hs_same _ _ _))))) rfl (fun v h1 hp => ?_)
        cases hp
        refine gs_iret a_X4_byteOf_23 rfl rfl ?_
        rfl
    · have c9 : ¬ f ≤ nI P := c9
      rw [le_lit (by omega)] at c9
      refine gs_k (-1) 13 a_X4_byteOf_12 (by decide +kernel) rfl ?_
      refine gs_iret a_X4_byteOf_13 rfl rfl ?_
      rw [if_pos (by omega)]
theorem c_count (what : Int32) (hs : SI (P, cap, tmo, clk, cl, cut, X, sy, torn, tE, tp, an)) (w : CS h (P, cap, tmo, clk, cl, cut, X, sy, torn, tE, tp, an)) : ev (d + 4) n_X4_count [.ref 0, .int what] h (fun u => u = (some (.int (F_count (P, cap, tmo, clk, cl, cut, X, sy, torn, tE, tp, an) what)), h)) := by
  obtain ⟨s1, s2, s3, s4, s5, s6, s7, s8, s9, hv, s11, -⟩ := hs
  have w' : CE h P cap tmo clk cl cut X sy torn tE tp an (tS cl P X) := w
  have w1 := w'.obj'
  have hu1 := w'.uns.1
  rw [unO_tot] at hu1
  have hb1 := w'.book.1
  have ht1 := w'.tape.1
  have hTO : ∀ k, k < 32 → (tS cl P X).2.2.1 k ≤ 1000 := fun k hk => (T_b hv cl k hk).2.1
  have hTE : ∀ k, k < 32 → (tS cl P X).2.1 k ≤ 1000 := fun k hk => (T_b hv cl k hk).1
  have hO : ev (d + 3) n_X4_openTransactions [.ref 0] h (fun u => u = (some (.int (nI (cntO (tS cl P X)))), h)) := by
    generalize tS cl P X = T at *
    obtain ⟨n, ep, tx, bg, ba, ad, lc, de, mq, nx, la, en⟩ := T
    obtain ⟨pr, mk, w', hpr, hmk, hsy⟩ := w'
    have : cntO (n, ep, tx, bg, ba, ad, lc, de, mq, nx, la, en) = cnt (isO pr) 32 := by
      unfold cntO
      refine cnt_same (fun k hk => ?_)
      unfold isO
      rw [(hpr k hk).2.1]
      congr 1
      exact decide_eq_decide.mpr (m1_no (Nat.lt_of_le_of_lt (hTO k hk) (by decide))).symm
    rw [this]
    exact e_openTs w'
  have hR : ev (d + 3) n_X4_registeredProducers [.ref 0] h (fun u => u = (some (.int (nI (cntR (tS cl P X)))), h)) := by
    generalize tS cl P X = T at *
    obtain ⟨n, ep, tx, bg, ba, ad, lc, de, mq, nx, la, en⟩ := T
    obtain ⟨pr, mk, w', hpr, hmk, hsy⟩ := w'
    have : cntR (n, ep, tx, bg, ba, ad, lc, de, mq, nx, la, en) = cnt (isRk pr) 32 := by
      unfold cntR
      refine cnt_same (fun k hk => ?_)
      unfold isRk
      rw [(hpr k hk).1]
      congr 1
      exact decide_eq_decide.mpr (m1_no (Nat.lt_of_le_of_lt (hTE k hk) (by decide))).symm
    rw [this]
    exact e_regP w'
  simp only [F_count]
  refine ev_of q_X4_count (Nat.le_of_ble_eq_true rfl) ?_
  refine gs_n 1 a_X4_count_0 rfl ?_
  rcases sw_cases what 12 with ⟨i, hi, rfl⟩ | hd
  · rw [swi_n (by exact hi) (by simp)]
    rcases (by omega : i = 0 ∨ i = 1 ∨ i = 2 ∨ i = 3 ∨ i = 4 ∨ i = 5 ∨ i = 6 ∨ i = 7 ∨ i = 8 ∨ i = 9 ∨ i = 10 ∨ i = 11) with z | z | z | z | z | z | z | z | z | z | z | z <;> subst z
    · refine gs_n 64 a_X4_count_1 rfl ?_
      refine gs_n 65 a_X4_count_64 rfl ?_
      refine gs_get 68 a_X4_count_65 f_4_146 (by first | assumption | exact hs_same _ _ _ | exact (hs_ne _ _ (by first | assumption | decide | omega)).trans (by first | assumption | exact hs_same _ _ _ | exact (hs_ne _ _ (by first | assumption | decide | omega)).trans (by first | assumption | exact hs_same _ _ _ | exact (hs_ne _ _ (by first | assumption | decide | omega)).trans (by first | assumption | exact hs_same _ _ _ | exact (hs_ne _ _ (by first | assumption | decide | omega)).trans (by first | assumption | exact hs_same _ _ _))))) rfl rfl ?_
      refine gs_iret a_X4_count_68 rfl rfl ?_
      rfl
    · refine gs_n 69 a_X4_count_1 rfl ?_
      refine gs_n 70 a_X4_count_69 rfl ?_
      refine gs_get 73 a_X4_count_70 f_4_220 (by first | assumption | exact hs_same _ _ _ | exact (hs_ne _ _ (by first | assumption | decide | omega)).trans (by first | assumption | exact hs_same _ _ _ | exact (hs_ne _ _ (by first | assumption | decide | omega)).trans (by first | assumption | exact hs_same _ _ _ | exact (hs_ne _ _ (by first | assumption | decide | omega)).trans (by first | assumption | exact hs_same _ _ _ | exact (hs_ne _ _ (by first | assumption | decide | omega)).trans (by first | assumption | exact hs_same _ _ _))))) rfl rfl ?_
      refine gs_iret a_X4_count_73 rfl rfl ?_
      rfl
    · refine gs_n 74 a_X4_count_1 rfl ?_
      refine gs_n 75 a_X4_count_74 rfl ?_
      refine gs_get 78 a_X4_count_75 f_4_223 (by first | assumption | exact hs_same _ _ _ | exact (hs_ne _ _ (by first | assumption | decide | omega)).trans (by first | assumption | exact hs_same _ _ _ | exact (hs_ne _ _ (by first | assumption | decide | omega)).trans (by first | assumption | exact hs_same _ _ _ | exact (hs_ne _ _ (by first | assumption | decide | omega)).trans (by first | assumption | exact hs_same _ _ _ | exact (hs_ne _ _ (by first | assumption | decide | omega)).trans (by first | assumption | exact hs_same _ _ _))))) rfl rfl ?_
      refine gs_iret a_X4_count_78 rfl rfl ?_
      rfl
    · refine gs_n 79 a_X4_count_1 rfl ?_
      refine gs_n 80 a_X4_count_79 rfl ?_
      refine gs_get 83 a_X4_count_80 f_4_98 (by first | assumption | exact hs_same _ _ _ | exact (hs_ne _ _ (by first | assumption | decide | omega)).trans (by first | assumption | exact hs_same _ _ _ | exact (hs_ne _ _ (by first | assumption | decide | omega)).trans (by first | assumption | exact hs_same _ _ _ | exact (hs_ne _ _ (by first | assumption | decide | omega)).trans (by first | assumption | exact hs_same _ _ _ | exact (hs_ne _ _ (by first | assumption | decide | omega)).trans (by first | assumption | exact hs_same _ _ _))))) rfl rfl ?_
      refine gs_iret a_X4_count_83 rfl rfl ?_
      rfl
    · refine gs_n 84 a_X4_count_1 rfl ?_
      refine gs_n 85 a_X4_count_84 rfl ?_
      refine gs_get 88 a_X4_count_85 f_4_36 (by first | assumption | exact hs_same _ _ _ | exact (hs_ne _ _ (by first | assumption | decide | omega)).trans (by first | assumption | exact hs_same _ _ _ | exact (hs_ne _ _ (by first | assumption | decide | omega)).trans (by first | assumption | exact hs_same _ _ _ | exact (hs_ne _ _ (by first | assumption | decide | omega)).trans (by first | assumption | exact hs_same _ _ _ | exact (hs_ne _ _ (by first | assumption | decide | omega)).trans (by first | assumption | exact hs_same _ _ _))))) rfl rfl ?_
      refine gs_get 91 a_X4_count_88 f_4_142 (by first | assumption | exact hs_same _ _ _ | exact (hs_ne _ _ (by first | assumption | decide | omega)).trans (by first | assumption | exact hs_same _ _ _ | exact (hs_ne _ _ (by first | assumption | decide | omega)).trans (by first | assumption | exact hs_same _ _ _ | exact (hs_ne _ _ (by first | assumption | decide | omega)).trans (by first | assumption | exact hs_same _ _ _ | exact (hs_ne _ _ (by first | assumption | decide | omega)).trans (by first | assumption | exact hs_same _ _ _))))) rfl rfl ?_
      refine gs_iret a_X4_count_91 rfl rfl ?_
      rfl
    · refine gs_n 92 a_X4_count_1 rfl ?_
      refine gs_n 93 a_X4_count_92 rfl ?_
      refine gs_get 96 a_X4_count_93 f_4_30 (by first | assumption | exact hs_same _ _ _ | exact (hs_ne _ _ (by first | assumption | decide | omega)).trans (by first | assumption | exact hs_same _ _ _ | exact (hs_ne _ _ (by first | assumption | decide | omega)).trans (by first | assumption | exact hs_same _ _ _ | exact (hs_ne _ _ (by first | assumption | decide | omega)).trans (by first | assumption | exact hs_same _ _ _ | exact (hs_ne _ _ (by first | assumption | decide | omega)).trans (by first | assumption | exact hs_same _ _ _))))) rfl rfl ?_
      refine gs_get 99 a_X4_count_96 f_4_56 (by first | assumption | exact hs_same _ _ _ | exact (hs_ne _ _ (by first | assumption | decide | omega)).trans (by first | assumption | exact hs_same _ _ _ | exact (hs_ne _ _ (by first | assumption | decide | omega)).trans (by first | assumption | exact hs_same _ _ _ | exact (hs_ne _ _ (by first | assumption | decide | omega)).trans (by first | assumption | exact hs_same _ _ _ | exact (hs_ne _ _ (by first | assumption | decide | omega)).trans (by first | assumption | exact hs_same _ _ _))))) rfl rfl ?_
      refine gs_iret a_X4_count_99 rfl rfl ?_
      rfl
    · refine gs_n 100 a_X4_count_1 rfl ?_
      refine gs_n 101 a_X4_count_100 rfl ?_
      refine gs_get 104 a_X4_count_101 f_4_14 (by first | assumption | exact hs_same _ _ _ | exact (hs_ne _ _ (by first | assumption | decide | omega)).trans (by first | assumption | exact hs_same _ _ _ | exact (hs_ne _ _ (by first | assumption | decide | omega)).trans (by first | assumption | exact hs_same _ _ _ | exact (hs_ne _ _ (by first | assumption | decide | omega)).trans (by first | assumption | exact hs_same _ _ _ | exact (hs_ne _ _ (by first | assumption | decide | omega)).trans (by first | assumption | exact hs_same _ _ _))))) rfl rfl ?_
      refine gs_get 107 a_X4_count_104 f_4_56 (by first | assumption | exact hs_same _ _ _ | exact (hs_ne _ _ (by first | assumption | decide | omega)).trans (by first | assumption | exact hs_same _ _ _ | exact (hs_ne _ _ (by first | assumption | decide | omega)).trans (by first | assumption | exact hs_same _ _ _ | exact (hs_ne _ _ (by first | assumption | decide | omega)).trans (by first | assumption | exact hs_same _ _ _ | exact (hs_ne _ _ (by first | assumption | decide | omega)).trans (by first | assumption | exact hs_same _ _ _))))) rfl rfl ?_
      refine gs_iret a_X4_count_107 rfl rfl ?_
      rfl
    · refine gs_n 108 a_X4_count_1 rfl ?_
      refine gs_n 109 a_X4_count_108 rfl ?_
      refine gs_get 112 a_X4_count_109 f_4_63 (by first | assumption | exact hs_same _ _ _ | exact (hs_ne _ _ (by first | assumption | decide | omega)).trans (by first | assumption | exact hs_same _ _ _ | exact (hs_ne _ _ (by first | assumption | decide | omega)).trans (by first | assumption | exact hs_same _ _ _ | exact (hs_ne _ _ (by first | assumption | decide | omega)).trans (by first | assumption | exact hs_same _ _ _ | exact (hs_ne _ _ (by first | assumption | decide | omega)).trans (by first | assumption | exact hs_same _ _ _))))) rfl rfl ?_
      refine gs_if 119 115 a_X4_count_112 rfl rfl (fun c => ?_) (fun c => ?_)
      · have c := (b01_0 _).mp c
        subst c
        refine gs_k (nI 0) 120 a_X4_count_119 (by decide +kernel) rfl ?_
        refine gs_iret a_X4_count_120 rfl rfl ?_
        rfl
      · have c := (b01_ne _).mp c
        subst c
        refine gs_k (nI 1) 116 a_X4_count_115 (by decide +kernel) rfl ?_
        refine gs_n 120 a_X4_count_116 rfl ?_
        refine gs_iret a_X4_count_120 rfl rfl ?_
        rfl
    · refine gs_n 121 a_X4_count_1 rfl ?_
      refine gs_n 122 a_X4_count_121 rfl ?_
      refine gs_get 125 a_X4_count_122 f_4_168 (by first | assumption | exact hs_same _ _ _ | exact (hs_ne _ _ (by first | assumption | decide | omega)).trans (by first | assumption | exact hs_same _ _ _ | exact (hs_ne _ _ (by first | assumption | decide | omega)).trans (by first | assumption | exact hs_same _ _ _ | exact (hs_ne _ _ (by first | assumption | decide | omega)).trans (by first | assumption | exact hs_same _ _ _ | exact (hs_ne _ _ (by first | assumption | decide | omega)).trans (by first | assumption | exact hs_same _ _ _))))) rfl rfl ?_
      refine gs_iret a_X4_count_125 rfl rfl ?_
      rfl
    · refine gs_n 126 a_X4_count_1 rfl ?_
      refine gs_n 127 a_X4_count_126 rfl ?_
      refine gs_get 130 a_X4_count_127 f_4_63 (by first | assumption | exact hs_same _ _ _ | exact (hs_ne _ _ (by first | assumption | decide | omega)).trans (by first | assumption | exact hs_same _ _ _ | exact (hs_ne _ _ (by first | assumption | decide | omega)).trans (by first | assumption | exact hs_same _ _ _ | exact (hs_ne _ _ (by first | assumption | decide | omega)).trans (by first | assumption | exact hs_same _ _ _ | exact (hs_ne _ _ (by first | assumption | decide | omega)).trans (by first | assumption | exact hs_same _ _ _))))) rfl rfl ?_
      refine gs_if 137 133 a_X4_count_130 rfl rfl (fun c => ?_) (fun c => ?_)
      · have c := (b01_0 _).mp c
        subst c
        refine gs_n 138 a_X4_count_137 rfl ?_
        refine gs_cv 141 a_X4_count_138 k_4_226 q_X4_registeredProducers hR rfl rfl rfl (by simp [Value.category]) (by first | assumption | exact hs_same _ _ _ | exact (hs_ne _ _ (by first | assumption | decide | omega)).trans (by first | assumption | exact hs_same _ _ _ | exact (hs_ne _ _ (by first | assumption | decide | omega)).trans (by first | assumption | exact hs_same _ _ _ | exact (hs_ne _ _ (by first | assumption | decide | omega)).trans (by first | assumption | exact hs_same _ _ _ | exact (hs_ne _ _ (by first | assumption | decide | omega)).trans (by first | assumption | exact hs_same _ _ _))))) rfl (fun v h1 hp => ?_)
        cases hp
        refine gs_iret a_X4_count_141 rfl rfl ?_
        rfl
      · have c := (b01_ne _).mp c
        subst c
        refine gs_k (-1) 134 a_X4_count_133 (by decide +kernel) rfl ?_
        refine gs_n 141 a_X4_count_134 rfl ?_
        refine gs_iret a_X4_count_141 rfl rfl ?_
        rfl
    · refine gs_n 142 a_X4_count_1 rfl ?_
      refine gs_n 143 a_X4_count_142 rfl ?_
      refine gs_get 146 a_X4_count_143 f_4_63 (by first | assumption | exact hs_same _ _ _ | exact (hs_ne _ _ (by first | assumption | decide | omega)).trans (by first | assumption | exact hs_same _ _ _ | exact (hs_ne _ _ (by first | assumption | decide | omega)).trans (by first | assumption | exact hs_same _ _ _ | exact (hs_ne _ _ (by first | assumption | decide | omega)).trans (by first | assumption | exact hs_same _ _ _ | exact (hs_ne _ _ (by first | assumption | decide | omega)).trans (by first | assumption | exact hs_same _ _ _))))) rfl rfl ?_
      refine gs_if 153 149 a_X4_count_146 rfl rfl (fun c => ?_) (fun c => ?_)
      · have c := (b01_0 _).mp c
        subst c
        refine gs_n 154 a_X4_count_153 rfl ?_
        refine gs_cv 157 a_X4_count_154 k_4_229 q_X4_openTransactions hO rfl rfl rfl (by simp [Value.category]) (by first | assumption | exact hs_same _ _ _ | exact (hs_ne _ _ (by first | assumption | decide | omega)).trans (by first | assumption | exact hs_same _ _ _ | exact (hs_ne _ _ (by first | assumption | decide | omega)).trans (by first | assumption | exact hs_same _ _ _ | exact (hs_ne _ _ (by first | assumption | decide | omega)).trans (by first | assumption | exact hs_same _ _ _ | exact (hs_ne _ _ (by first | assumption | decide | omega)).trans (by first | assumption | exact hs_same _ _ _))))) rfl (fun v h1 hp => ?_)
        cases hp
        refine gs_iret a_X4_count_157 rfl rfl ?_
        rfl
      · have c := (b01_ne _).mp c
        subst c
        refine gs_k (-1) 150 a_X4_count_149 (by decide +kernel) rfl ?_
        refine gs_n 157 a_X4_count_150 rfl ?_
        refine gs_iret a_X4_count_157 rfl rfl ?_
        rfl
    · refine gs_n 158 a_X4_count_1 rfl ?_
      refine gs_n 159 a_X4_count_158 rfl ?_
      refine gs_get 162 a_X4_count_159 f_4_63 (by first | assumption | exact hs_same _ _ _ | exact (hs_ne _ _ (by first | assumption | decide | omega)).trans (by first | assumption | exact hs_same _ _ _ | exact (hs_ne _ _ (by first | assumption | decide | omega)).trans (by first | assumption | exact hs_same _ _ _ | exact (hs_ne _ _ (by first | assumption | decide | omega)).trans (by first | assumption | exact hs_same _ _ _ | exact (hs_ne _ _ (by first | assumption | decide | omega)).trans (by first | assumption | exact hs_same _ _ _))))) rfl rfl ?_
      refine gs_if 169 165 a_X4_count_162 rfl rfl (fun c => ?_) (fun c => ?_)
      · have c := (b01_0 _).mp c
        subst c
        refine gs_n 170 a_X4_count_169 rfl ?_
        refine gs_get 173 a_X4_count_170 f_4_95 (by first | assumption | exact hs_same _ _ _ | exact (hs_ne _ _ (by first | assumption | decide | omega)).trans (by first | assumption | exact hs_same _ _ _ | exact (hs_ne _ _ (by first | assumption | decide | omega)).trans (by first | assumption | exact hs_same _ _ _ | exact (hs_ne _ _ (by first | assumption | decide | omega)).trans (by first | assumption | exact hs_same _ _ _ | exact (hs_ne _ _ (by first | assumption | decide | omega)).trans (by first | assumption | exact hs_same _ _ _))))) rfl rfl ?_
        refine gs_iret a_X4_count_173 rfl rfl ?_
        rfl
      · have c := (b01_ne _).mp c
        subst c
        refine gs_k (-1) 166 a_X4_count_165 (by decide +kernel) rfl ?_
        refine gs_n 173 a_X4_count_166 rfl ?_
        refine gs_iret a_X4_count_173 rfl rfl ?_
        rfl
  · rw [swi_d (by simp only [List.length_cons, List.length_nil]; omega)]
    refine gs_swd 174 a_X4_count_1 (by omega) rfl ?_
    refine gs_k (-1) 175 a_X4_count_174 (by decide +kernel) rfl ?_
    refine gs_iret a_X4_count_175 rfl rfl ?_
    rfl
end C9
