/-! OnceLedger: feed, fetch, send -/
section C7
variable {d : Nat} {h h' : ix_H} {P cap tmo clk cut sy torn : Nat} {cl : Bool} {X : List En} {tE : En} {tp an : List Nat} {T : TS}
theorem range_snoc (a b : Int64) (j : Nat) : (List.range (j + 1)).map (fby a b) = (List.range j).map (fby a b) ++ [fby a b j] := by
  rw [List.range_succ, List.map_append]
  rfl
theorem l_feed (a b : Int64) (m : Nat) (hm : tp.length + m ≤ 40) (hm16 : m ≤ 16) : ∀ (r j : Nat) (h : ix_H), j + r = m → CE h P cap tmo clk cl cut X sy torn tE (tp ++ (List.range j).map (fby a b)) an T →
    gs none (d + 1) mD_X4_feed (30, [(6, .int (nI j)), (0, .ref 0), (1, .int (nI m)), (2, .long a), (4, .long b)], [], h) (fun u => u.1 = some (.int (nI (tp.length + m))) ∧ FS cC h u.2 ∧ CE u.2 P cap tmo clk cl cut X sy torn tE (tp ++ (List.range m).map (fby a b)) an T) := by
  intro r
  induction r with
  | zero =>
    intro j h hj w
    obtain rfl : j = m := by omega
    have w1 := w.obj'
    have k := w.tape.1
    rw [List.length_append, List.length_map, List.length_range] at k
    refine gs_n 32 a_X4_feed_30 rfl ?_
    refine gs_n 33 a_X4_feed_32 rfl ?_
    refine gs_ic 76 36 a_X4_feed_33 rfl rfl (fun c33 => ?_) (fun c33 => ?_)
    · refine gs_n 77 a_X4_feed_76 rfl ?_
      refine gs_get 80 a_X4_feed_77 f_4_14 (by first | assumption | exact hs_same _ _ _ | exact (hs_ne _ _ (by first | assumption | decide | omega)).trans (by first | assumption | exact hs_same _ _ _ | exact (hs_ne _ _ (by first | assumption | decide | omega)).trans (by first | assumption | exact hs_same _ _ _ | exact (hs_ne _ _ (by first | assumption | decide | omega)).trans (by first | assumption | exact hs_same _ _ _ | exact (hs_ne _ _ (by first | assumption | decide | omega)).trans (by first | assumption | exact hs_same _ _ _))))) rfl rfl ?_
      refine gs_get 83 a_X4_feed_80 f_4_56 (by first | assumption | exact hs_same _ _ _ | exact (hs_ne _ _ (by first | assumption | decide | omega)).trans (by first | assumption | exact hs_same _ _ _ | exact (hs_ne _ _ (by first | assumption | decide | omega)).trans (by first | assumption | exact hs_same _ _ _ | exact (hs_ne _ _ (by first | assumption | decide | omega)).trans (by first | assumption | exact hs_same _ _ _ | exact (hs_ne _ _ (by first | assumption | decide | omega)).trans (by first | assumption | exact hs_same _ _ _))))) rfl rfl ?_
      refine gs_iret a_X4_feed_83 rfl rfl ?_
      exact ⟨rfl, FS.rf _ _, w⟩
    · exact absurd (nI_le (Nat.le_refl _) (by omega)) c33
  | succ r ih =>
    intro j h hj w
    have w1 := w.obj'
    have k := w.tape.1
    have hlen : (tp ++ (List.range j).map (fby a b)).length < 40 := by rw [List.length_append, List.length_map, List.length_range]; omega
    have step : ∀ wd : Int64, wd = (if j < 8 then a else b) → gs none (d + 1) mD_X4_feed (49, [(6, .int (nI j)), (0, .ref 0), (1, .int (nI m)), (2, .long a), (4, .long b)], [.long wd], h) (fun u => u.1 = some (.int (nI (tp.length + m))) ∧ FS cC h u.2 ∧ CE u.2 P cap tmo clk cl cut X sy torn tE (tp ++ (List.range m).map (fby a b)) an T) := by
      intro wd hwd
      refine gs_n 51 a_X4_feed_49 rfl ?_
      refine gs_n 52 a_X4_feed_51 rfl ?_
      refine gs_get 55 a_X4_feed_52 f_4_14 (by first | assumption | exact hs_same _ _ _ | exact (hs_ne _ _ (by first | assumption | decide | omega)).trans (by first | assumption | exact hs_same _ _ _ | exact (hs_ne _ _ (by first | assumption | decide | omega)).trans (by first | assumption | exact hs_same _ _ _ | exact (hs_ne _ _ (by first | assumption | decide | omega)).trans (by first | assumption | exact hs_same _ _ _ | exact (hs_ne _ _ (by first | assumption | decide | omega)).trans (by first | assumption | exact hs_same _ _ _))))) rfl rfl ?_
      refine gs_n 57 a_X4_feed_55 rfl ?_
      refine gs_k (nI 8) 59 a_X4_feed_57 (by decide +kernel) rfl ?_
      refine gs_n 61 a_X4_feed_59 rfl ?_
      refine gs_k (nI 7) 63 a_X4_feed_61 (by decide +kernel) rfl ?_
      refine gs_n 64 a_X4_feed_63 rfl ?_
      refine gs_n 65 a_X4_feed_64 rfl ?_
      refine gs_n 66 a_X4_feed_65 rfl ?_
      refine gs_n 67 a_X4_feed_66 rfl ?_
      refine gs_cv 70 a_X4_feed_67 k_4_60 q_X0_add (e_add _ w.tape hlen) rfl rfl rfl (by simp [Value.category]) (by first | assumption | exact hs_same _ _ _ | exact (hs_ne _ _ (by first | assumption | decide | omega)).trans (by first | assumption | exact hs_same _ _ _ | exact (hs_ne _ _ (by first | assumption | decide | omega)).trans (by first | assumption | exact hs_same _ _ _ | exact (hs_ne _ _ (by first | assumption | decide | omega)).trans (by first | assumption | exact hs_same _ _ _ | exact (hs_ne _ _ (by first | assumption | decide | omega)).trans (by first | assumption | exact hs_same _ _ _))))) rfl (fun v h2 hp => ?_)
      obtain ⟨e1, hF, hr2⟩ := hp
      simp only at e1
      subst e1
      first | refine gs_inc _ 73 a_X4_feed_70 rfl (Nat.le_of_ble_eq_true rfl) rfl ?_ | refine gs_n 73 a_X4_feed_70 rfl ?_
      refine gs_n 30 a_X4_feed_73 rfl ?_
      refine gs_w [(6, .int (nI (j + 1))), (0, .ref 0), (1, .int (nI m)), (2, .long a), (4, .long b)] (by simp [ix_nd]) (by intro x hx; simp only [List.mem_cons, List.not_mem_nil, or_false] at hx; rcases hx with rfl | rfl | rfl | rfl | rfl <;> rfl) ?_
      have w2 := w.setT hF hr2
      rw [List.append_assoc, hwd] at w2
      have e2 : (List.range j).map (fby a b) ++ [((if j < 8 then a else b).toUInt64 >>> ((nI 8 * (nI j &&& nI 7)).toInt64.toUInt64 &&& Int64.toUInt64 63)).toInt64.toInt32.toBitVec.toNat % 256] = (List.range (j + 1)).map (fby a b) := by rw [range_snoc]; rfl
      rw [e2] at w2
      refine gs_post (ih (j + 1) h2 (by omega) w2) ?_
      rintro u ⟨q1, q2, q3⟩
      exact ⟨q1, (FS.of hF (by intro k hk; simp at hk; unfold cC; omega)).trans q2, q3⟩
    refine gs_n 32 a_X4_feed_30 rfl ?_
    refine gs_n 33 a_X4_feed_32 rfl ?_
    refine gs_ic 76 36 a_X4_feed_33 rfl rfl (fun c33 => ?_) (fun c33 => ?_)
    · exact absurd c33 (nI_ge (by omega) (by omega))
    · refine gs_n 38 a_X4_feed_36 rfl ?_
      refine gs_k (nI 8) 40 a_X4_feed_38 (by decide +kernel) rfl ?_
      refine gs_ic 47 43 a_X4_feed_40 rfl rfl (fun c40 => ?_) (fun c40 => ?_)
      · have c40 : nI 8 ≤ nI j := c40
        have : ¬ j < 8 := fun q => nI_ge (a := j) (b := 8) q (by omega) c40
        refine gs_n 49 a_X4_feed_47 rfl ?_
        exact step b (by rw [if_neg this])
      · have c40 : ¬ nI 8 ≤ nI j := c40
        have : j < 8 := Classical.byContradiction (fun q => c40 (nI_le (by omega) (by omega)))
        refine gs_n 44 a_X4_feed_43 rfl ?_
        refine gs_n 49 a_X4_feed_44 rfl ?_
        exact step a (by rw [if_pos this])
theorem c_feed (x : Int32) (a b : Int64) (hs : SI (P, cap, tmo, clk, cl, cut, X, sy, torn, tE, tp, an)) (w : CS h (P, cap, tmo, clk, cl, cut, X, sy, torn, tE, tp, an)) : ev (d + 2) n_X4_feed [.ref 0, .int x, .long a, .long b] h (fun u => u.1 = some (.int (F_feed (P, cap, tmo, clk, cl, cut, X, sy, torn, tE, tp, an) x a b).1) ∧ FS cC h u.2 ∧ CS u.2 (F_feed (P, cap, tmo, clk, cl, cut, X, sy, torn, tE, tp, an) x a b).2) := by
  have w' : CE h P cap tmo clk cl cut X sy torn tE tp an (tS cl P X) := w
  have w1 := w'.obj'
  have k := w'.tape.1
  have htl := w'.tape.2.2.1
  simp only [F_feed]
  refine ev_of q_X4_feed (Nat.le_of_ble_eq_true rfl) ?_
  refine gs_n 1 a_X4_feed_0 rfl ?_
  refine gs_k (nI 1) 2 a_X4_feed_1 (by decide +kernel) rfl ?_
  refine gs_ic 25 5 a_X4_feed_2 rfl rfl (fun c2 => ?_) (fun c2 => ?_)
  · have c2 : x < nI 1 := c2
    rw [lt_lit' (by omega)] at c2
    rw [if_neg (by omega)]
    refine gs_k (-1) 26 a_X4_feed_25 (by decide +kernel) rfl ?_
    refine gs_iret a_X4_feed_26 rfl rfl ?_
    exact ⟨rfl, FS.rf _ _, w⟩
  · have c2 : ¬ x < nI 1 := c2
    rw [lt_lit' (by omega)] at c2
    refine gs_n 6 a_X4_feed_5 rfl ?_
    refine gs_k (nI 16) 8 a_X4_feed_6 (by decide +kernel) rfl ?_
    refine gs_ic 25 11 a_X4_feed_8 rfl rfl (fun c8 => ?_) (fun c8 => ?_)
    · have c8 : nI 16 < x := c8
      rw [lt_lit (by omega)] at c8
      rw [if_neg (by omega)]
      refine gs_k (-1) 26 a_X4_feed_25 (by decide +kernel) rfl ?_
      refine gs_iret a_X4_feed_26 rfl rfl ?_
      exact ⟨rfl, FS.rf _ _, w⟩
    · have c8 : ¬ nI 16 < x := c8
      rw [lt_lit (by omega)] at c8
      have hx : x = nI (kn x) := nI_ofInt (by omega)
      have hkx : kn x ≤ 16 := by unfold kn; omega
      have hxi : x.toInt = kn x := by unfold kn; omega
      generalize hkk : kn x = m at *
      subst hx
      refine gs_n 12 a_X4_feed_11 rfl ?_
      refine gs_get 15 a_X4_feed_12 f_4_14 (by first | assumption | exact hs_same _ _ _ | exact (hs_ne _ _ (by first | assumption | decide | omega)).trans (by first | assumption | exact hs_same _ _ _ | exact (hs_ne _ _ (by first | assumption | decide | omega)).trans (by first | assumption | exact hs_same _ _ _ | exact (hs_ne _ _ (by first | assumption | decide | omega)).trans (by first | assumption | exact hs_same _ _ _ | exact (hs_ne _ _ (by first | assumption | decide | omega)).trans (by first | assumption | exact hs_same _ _ _))))) rfl rfl ?_
      refine gs_get 18 a_X4_feed_15 f_4_56 (by first | assumption | exact hs_same _ _ _ | exact (hs_ne _ _ (by first | assumption | decide | omega)).trans (by first | assumption | exact hs_same _ _ _ | exact (hs_ne _ _ (by first | assumption | decide | omega)).trans (by first | assumption | exact hs_same _ _ _ | exact (hs_ne _ _ (by first | assumption | decide | omega)).trans (by first | assumption | exact hs_same _ _ _ | exact (hs_ne _ _ (by first | assumption | decide | omega)).trans (by first | assumption | exact hs_same _ _ _))))) rfl rfl ?_
      refine gs_n 19 a_X4_feed_18 rfl ?_
      refine gs_n 20 a_X4_feed_19 rfl ?_
      refine gs_k (nI 40) 22 a_X4_feed_20 (by decide +kernel) rfl ?_
      rw [nI_add]
      refine gs_ic 27 25 a_X4_feed_22 rfl rfl (fun c22 => ?_) (fun c22 => ?_)
      · have c22 : nI (tp.length + m) ≤ nI 40 := c22
        rw [le_lit (by omega), nI_toInt (by omega)] at c22
        rw [if_pos (by omega)]
        refine gs_k (nI 0) 28 a_X4_feed_27 (by decide +kernel) rfl ?_
        refine gs_n 30 a_X4_feed_28 rfl ?_
        refine gs_w [(6, .int (nI 0)), (0, .ref 0), (1, .int (nI m)), (2, .long a), (4, .long b)] (by simp [ix_nd]) (by intro x hx; simp only [List.mem_cons, List.not_mem_nil, or_false] at hx; rcases hx with rfl | rfl | rfl | rfl | rfl <;> rfl) ?_
        exact l_feed (T := tS cl P X) a b m (by omega) hkx m 0 h (by omega) (by rw [List.range_zero, List.map_nil, List.append_nil]; exact w')
      · have c22 : ¬ nI (tp.length + m) ≤ nI 40 := c22
        rw [le_lit (by omega), nI_toInt (by omega)] at c22
        rw [if_neg (by omega)]
        refine gs_k (-1) 26 a_X4_feed_25 (by decide +kernel) rfl ?_
        refine gs_iret a_X4_feed_26 rfl rfl ?_
        exact ⟨rfl, FS.rf _ _, w⟩
theorem c_fetch (p fr : Int32) (c : Bool) (hs : SI (P, cap, tmo, clk, cl, cut, X, sy, torn, tE, tp, an)) (w : CS h (P, cap, tmo, clk, cl, cut, X, sy, torn, tE, tp, an)) : ev (d + 5) n_X4_fetch [.ref 0, .int p, .int fr, .int (b01 c)] h (fun u => u.1 = some (.int (F_fetch (P, cap, tmo, clk, cl, cut, X, sy, torn, tE, tp, an) p fr c).1) ∧ FS cC h u.2 ∧ CS u.2 (F_fetch (P, cap, tmo, clk, cl, cut, X, sy, torn, tE, tp, an) p fr c).2) := by
  obtain ⟨s1, s2, s3, s4, s5, s6, s7, s8, s9, hv, s11, -⟩ := hs
  have w' : CE h P cap tmo clk cl cut X sy torn tE tp an (tS cl P X) := w
  have w1 := w'.obj'
  have k := w'.answ.1
  have hfr3 := fr.toInt_lt
  simp only [F_fetch]
  refine ev_of q_X4_fetch (Nat.le_of_ble_eq_true rfl) ?_
  refine gs_n 1 a_X4_fetch_0 rfl ?_
  refine gs_get 4 a_X4_fetch_1 f_4_18 (by first | assumption | exact hs_same _ _ _ | exact (hs_ne _ _ (by first | assumption | decide | omega)).trans (by first | assumption | exact hs_same _ _ _ | exact (hs_ne _ _ (by first | assumption | decide | omega)).trans (by first | assumption | exact hs_same _ _ _ | exact (hs_ne _ _ (by first | assumption | decide | omega)).trans (by first | assumption | exact hs_same _ _ _ | exact (hs_ne _ _ (by first | assumption | decide | omega)).trans (by first | assumption | exact hs_same _ _ _))))) rfl rfl ?_
  refine gs_cv 7 a_X4_fetch_4 k_4_109 q_X0_clear (e_clear w'.answ) rfl rfl rfl (by simp [Value.category]) (by first | assumption | exact hs_same _ _ _ | exact (hs_ne _ _ (by first | assumption | decide | omega)).trans (by first | assumption | exact hs_same _ _ _ | exact (hs_ne _ _ (by first | assumption | decide | omega)).trans (by first | assumption | exact hs_same _ _ _ | exact (hs_ne _ _ (by first | assumption | decide | omega)).trans (by first | assumption | exact hs_same _ _ _ | exact (hs_ne _ _ (by first | assumption | decide | omega)).trans (by first | assumption | exact hs_same _ _ _))))) rfl (fun v h2 hp => ?_)
  obtain ⟨e1, hF2, hr2⟩ := hp
  simp only at e1
  subst e1
  have hFS2 : FS cC h h2 := FS.of hF2 (by intro k hk; simp at hk; unfold cC; omega)
  have w2 := w'.setA hF2 hr2
  have k1 := w2.obj'
  refine gs_n 8 a_X4_fetch_7 rfl ?_
  refine gs_get 11 a_X4_fetch_8 f_4_63 (by first | assumption | exact hs_same _ _ _ | exact (hs_ne _ _ (by first | assumption | decide | omega)).trans (by first | assumption | exact hs_same _ _ _ | exact (hs_ne _ _ (by first | assumption | decide | omega)).trans (by first | assumption | exact hs_same _ _ _ | exact (hs_ne _ _ (by first | assumption | decide | omega)).trans (by first | assumption | exact hs_same _ _ _ | exact (hs_ne _ _ (by first | assumption | decide | omega)).trans (by first | assumption | exact hs_same _ _ _))))) rfl rfl ?_
  refine gs_if 26 14 a_X4_fetch_11 rfl rfl (fun c11 => ?_) (fun c11 => ?_)
  · have c11 := (b01_ne _).mp c11
    rw [if_pos (by rw [c11]; simp)]
    refine gs_k (-1) 27 a_X4_fetch_26 (by decide +kernel) rfl ?_
    refine gs_iret a_X4_fetch_27 rfl rfl ?_
    exact ⟨rfl, hFS2, w2⟩
  · have c11 : cl = false := (b01_0 _).mp (Classical.byContradiction c11)
    refine gs_n 15 a_X4_fetch_14 rfl ?_
    refine gs_n 16 a_X4_fetch_15 rfl ?_
    refine gs_cv 19 a_X4_fetch_16 k_4_125 q_X4_isPartition (c_isPart p w2) rfl rfl rfl (by simp [Value.category]) (by first | assumption | exact hs_same _ _ _ | exact (hs_ne _ _ (by first | assumption | decide | omega)).trans (by first | assumption | exact hs_same _ _ _ | exact (hs_ne _ _ (by first | assumption | decide | omega)).trans (by first | assumption | exact hs_same _ _ _ | exact (hs_ne _ _ (by first | assumption | decide | omega)).trans (by first | assumption | exact hs_same _ _ _ | exact (hs_ne _ _ (by first | assumption | decide | omega)).trans (by first | assumption | exact hs_same _ _ _))))) rfl (fun v h1 hp => ?_)
    cases hp
    refine gs_if 26 22 a_X4_fetch_19 rfl rfl (fun c19 => ?_) (fun c19 => ?_)
    · have c19 := (b01_0 _).mp c19
      rw [if_pos (by rw [c19]; simp)]
      refine gs_k (-1) 27 a_X4_fetch_26 (by decide +kernel) rfl ?_
      refine gs_iret a_X4_fetch_27 rfl rfl ?_
      exact ⟨rfl, hFS2, w2⟩
    · have c19 := (b01_ne _).mp c19
      refine gs_n 23 a_X4_fetch_22 rfl ?_
      refine gs_if 28 26 a_X4_fetch_23 rfl rfl (fun c23 => ?_) (fun c23 => ?_)
      · have c23 : 0 ≤ fr := c23
        have o1 : 0 ≤ fr.toInt := by
          rw [Int32.le_iff_toInt_le] at c23
          simpa using c23
        rw [if_neg (by rw [c11, c19, decide_eq_false (by omega)]; simp)]
        obtain ⟨p1, p2⟩ := isPn_kn c19
        have f2 : fr = nI (kn fr) := nI_ofInt o1
        have f3 : kn fr < 2 ^ 31 := by unfold kn; omega
        generalize hkp : kn p = pp at *
        generalize hkf : kn fr = ff0 at *
        subst p2
        subst f2
        have hl := w2.log p1
        have hl1 := hl.1
        have hlen := hl.len
        obtain ⟨f, hf, hf'⟩ := w2.lga
        have rest : ∀ (h3 : ix_H) (x : Option Nat), FS cC h h3 → x = offF (fl pp X) ff0 c → CE h3 P cap tmo clk cl cut X sy torn tE tp [] (tS cl P X) → gs none (d + 4) mD_X4_fetch (55, [(0, .ref 0), (1, .int (nI pp)), (2, .int (nI ff0)), (3, .int (b01 c)), (4, .ref (16 + 6 * pp))], [.int (oI x)], h3) (fun u => u.1 = some (.int (oI (offF (fl pp X) ff0 c))) ∧ FS cC h u.2 ∧ CS u.2 (P, cap, tmo, clk, cl, cut, X, sy, torn, tE, tp, (match offF (fl pp X) ff0 c with
            | none => []
            | some o => eP ((fl pp X).getD o en0)))) := by
          intro h3 x hFS3 hx w3
          have k3 := w3.obj'
          have hl3 := w3.log p1
          have hl31 := hl3.1
          have hok := hl3.2.2.2.2.2
          rw [← hx]
          have hxl : ∀ o, x = some o → o < (fl pp X).length := fun o ho => offF_lt (by rw [← hx, ho])
          cases x with
          | none =>
            simp only [oI]
            refine gs_n 57 a_X4_fetch_55 rfl ?_
            refine gs_n 59 a_X4_fetch_57 rfl ?_
            refine gs_k (-1) 60 a_X4_fetch_59 (by decide +kernel) rfl ?_
            refine gs_ic 74 63 a_X4_fetch_60 rfl rfl (fun c60 => ?_) (fun c60 => ?_)
            · refine gs_n 76 a_X4_fetch_74 rfl ?_
              refine gs_iret a_X4_fetch_76 rfl rfl ?_
              exact ⟨rfl, hFS3, w3⟩
            · exact absurd rfl c60
          | some o =>
            have ho := hxl o rfl
            have hbb := (hok _ (getD_mem ho)).2.2.2.2.2.1
            simp only [oI]
            refine gs_n 57 a_X4_fetch_55 rfl ?_
            refine gs_n 59 a_X4_fetch_57 rfl ?_
            refine gs_k (-1) 60 a_X4_fetch_59 (by decide +kernel) rfl ?_
            refine gs_ic 74 63 a_X4_fetch_60 rfl rfl (fun c60 => ?_) (fun c60 => ?_)
            · have c60 : nI o = -1 := c60
              have h1 := congrArg Int32.toInt c60
              rw [nI_toInt (by omega), show (-1 : Int32).toInt = -1 from by decide +kernel] at h1
              omega
            · refine gs_n 65 a_X4_fetch_63 rfl ?_
              refine gs_n 67 a_X4_fetch_65 rfl ?_
              refine gs_n 68 a_X4_fetch_67 rfl ?_
              refine gs_get 71 a_X4_fetch_68 f_4_18 (by first | assumption | exact hs_same _ _ _ | exact (hs_ne _ _ (by first | assumption | decide | omega)).trans (by first | assumption | exact hs_same _ _ _ | exact (hs_ne _ _ (by first | assumption | decide | omega)).trans (by first | assumption | exact hs_same _ _ _ | exact (hs_ne _ _ (by first | assumption | decide | omega)).trans (by first | assumption | exact hs_same _ _ _ | exact (hs_ne _ _ (by first | assumption | decide | omega)).trans (by first | assumption | exact hs_same _ _ _))))) rfl rfl ?_
              refine gs_cv 74 a_X4_fetch_71 k_4_135 q_X1_copyPayload (e_copy (r := 3) (a := 4) (N := 40) (bs := []) ho hl3 w3.answ (by omega) (by simpa using hbb)) rfl rfl rfl (by simp [Value.category]) (by first | assumption | exact hs_same _ _ _ | exact (hs_ne _ _ (by first | assumption | decide | omega)).trans (by first | assumption | exact hs_same _ _ _ | exact (hs_ne _ _ (by first | assumption | decide | omega)).trans (by first | assumption | exact hs_same _ _ _ | exact (hs_ne _ _ (by first | assumption | decide | omega)).trans (by first | assumption | exact hs_same _ _ _ | exact (hs_ne _ _ (by first | assumption | decide | omega)).trans (by first | assumption | exact hs_same _ _ _))))) rfl (fun v h4 hp => ?_)
              obtain ⟨e1, hF4, hr4⟩ := hp
              simp only at e1
              subst e1
              refine gs_n 76 a_X4_fetch_74 rfl ?_
              refine gs_iret a_X4_fetch_76 rfl rfl ?_
              exact ⟨rfl, hFS3.trans (FS.of hF4 (by intro k hk; simp at hk; unfold cC; omega)), w3.setA hF4 hr4⟩
        refine gs_n 29 a_X4_fetch_28 rfl ?_
        refine gs_get 32 a_X4_fetch_29 f_4_26 (by first | assumption | exact hs_same _ _ _ | exact (hs_ne _ _ (by first | assumption | decide | omega)).trans (by first | assumption | exact hs_same _ _ _ | exact (hs_ne _ _ (by first | assumption | decide | omega)).trans (by first | assumption | exact hs_same _ _ _ | exact (hs_ne _ _ (by first | assumption | decide | omega)).trans (by first | assumption | exact hs_same _ _ _ | exact (hs_ne _ _ (by first | assumption | decide | omega)).trans (by first | assumption | exact hs_same _ _ _))))) rfl rfl ?_
        refine gs_n 33 a_X4_fetch_32 rfl ?_
        refine gs_aa pp (16 + 6 * pp) 34 a_X4_fetch_33 (by first | assumption | exact hs_same _ _ _ | exact (hs_ne _ _ (by first | assumption | decide | omega)).trans (by first | assumption | exact hs_same _ _ _ | exact (hs_ne _ _ (by first | assumption | decide | omega)).trans (by first | assumption | exact hs_same _ _ _ | exact (hs_ne _ _ (by first | assumption | decide | omega)).trans (by first | assumption | exact hs_same _ _ _ | exact (hs_ne _ _ (by first | assumption | decide | omega)).trans (by first | assumption | exact hs_same _ _ _))))) rfl (by omega) (by decide) (by simp) (hf' pp (by omega)) rfl ?_
        refine gs_n 36 a_X4_fetch_34 rfl ?_
        refine gs_n 37 a_X4_fetch_36 rfl ?_
        refine gs_if 49 40 a_X4_fetch_37 rfl rfl (fun c37 => ?_) (fun c37 => ?_)
        · have c37 := (b01_0 _).mp c37
          refine gs_n 51 a_X4_fetch_49 rfl ?_
          refine gs_n 52 a_X4_fetch_51 rfl ?_
          refine gs_cv 55 a_X4_fetch_52 k_4_132 q_X1_firstSeen (e_firstS ff0 f3 hl) rfl rfl rfl (by simp [Value.category]) (by first | assumption | exact hs_same _ _ _ | exact (hs_ne _ _ (by first | assumption | decide | omega)).trans (by first | assumption | exact hs_same _ _ _ | exact (hs_ne _ _ (by first | assumption | decide | omega)).trans (by first | assumption | exact hs_same _ _ _ | exact (hs_ne _ _ (by first | assumption | decide | omega)).trans (by first | assumption | exact hs_same _ _ _ | exact (hs_ne _ _ (by first | assumption | decide | omega)).trans (by first | assumption | exact hs_same _ _ _))))) rfl (fun v h1 hp => ?_)
          cases hp
          refine gs_w [(0, .ref 0), (1, .int (nI pp)), (2, .int (nI ff0)), (3, .int (b01 c)), (4, .ref (16 + 6 * pp))] (by simp [ix_nd]) (by intro x hx; simp only [List.mem_cons, List.not_mem_nil, or_false] at hx; rcases hx with rfl | rfl | rfl | rfl | rfl <;> rfl) ?_
          exact rest h2 _ hFS2 (by unfold offF; rw [c37, if_neg (by simp)]) w2
        · have c37 := (b01_ne _).mp c37
          refine gs_n 42 a_X4_fetch_40 rfl ?_
          refine gs_n 43 a_X4_fetch_42 rfl ?_
          refine gs_cv 46 a_X4_fetch_43 k_4_128 q_X1_firstCommitted (e_firstC ff0 f3 hl) rfl rfl rfl (by simp [Value.category]) (by first | assumption | exact hs_same _ _ _ | exact (hs_ne _ _ (by first | assumption | decide | omega)).trans (by first | assumption | exact hs_same _ _ _ | exact (hs_ne _ _ (by first | assumption | decide | omega)).trans (by first | assumption | exact hs_same _ _ _ | exact (hs_ne _ _ (by first | assumption | decide | omega)).trans (by first | assumption | exact hs_same _ _ _ | exact (hs_ne _ _ (by first | assumption | decide | omega)).trans (by first | assumption | exact hs_same _ _ _))))) rfl (fun v h3 hp => ?_)
          obtain ⟨e1, hF3, hl3⟩ := hp
          simp only at e1
          subst e1
          refine gs_n 55 a_X4_fetch_46 rfl ?_
          refine gs_w [(0, .ref 0), (1, .int (nI pp)), (2, .int (nI ff0)), (3, .int (b01 c)), (4, .ref (16 + 6 * pp))] (by simp [ix_nd]) (by intro x hx; simp only [List.mem_cons, List.not_mem_nil, or_false] at hx; rcases hx with rfl | rfl | rfl | rfl | rfl <;> rfl) ?_
          exact rest h3 _ (hFS2.trans (FS.of hF3 (by intro k hk; simp at hk; unfold cC; omega))) (by unfold offF; rw [c37, if_pos rfl]) (w2.setL p1 hF3 hl3)
      · have c23 : ¬ 0 ≤ fr := c23
        have o1 : ¬ 0 ≤ fr.toInt := by
          rw [Int32.le_iff_toInt_le] at c23
          simpa using c23
        rw [if_pos (by rw [decide_eq_true (show fr.toInt < 0 by omega)]; simp)]
        refine gs_k (-1) 27 a_X4_fetch_26 (by decide +kernel) rfl ?_
        refine gs_iret a_X4_fetch_27 rfl rfl ?_
        exact ⟨rfl, hFS2, w2⟩
end C7
