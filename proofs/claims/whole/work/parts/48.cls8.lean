/-! OnceLedger: takeSent, send -/
section C8
variable {d : Nat} {h h' : ix_H} {P cap tmo clk cut sy torn : Nat} {cl : Bool} {X : List En} {tE : En} {tp an : List Nat} {T : TS}
theorem c_logRoom {p : Nat} (adds : Bool) (hp : p < P) (w : CE h P cap tmo clk cl cut X sy 0 tE tp an T) : ev (d + 3) n_X4_logHasRoom [.ref 0, .int (nI p), .int (b01 adds)] h (fun u => u = (some (.int (b01 (decide (bytesP p X + 14 + tp.length + 14 * (cntA T p + (if adds = true then 1 else 0)) ≤ cap)))), h)) := by
  have hok := w.ok
  obtain ⟨n, ep, tx, bg, ba, ad, lc, de, mq, nx, la, en⟩ := T
  obtain ⟨pr, mk, w, hpr, hmk, hsy⟩ := w
  have : lgRoom (P, cap, tmo, clk, cl, cut, nx) (lgO P X) (tnO P 0 tE) pr tp p adds = decide (bytesP p X + 14 + tp.length + 14 * (cntA (n, ep, tx, bg, ba, ad, lc, de, mq, nx, la, en) p + (if adds = true then 1 else 0)) ≤ cap) := by
    unfold lgRoom cntA bytesP
    rw [tnO_0, List.append_nil]
    rw [show lgO P X p = fl p X by unfold lgO; rw [if_pos hp]]
    rw [cnt_same (f := fun k => hasB (ad k) p) (f' := isA pr p)]
    intro k hk
    unfold isA
    rw [(hpr k hk).2.2.2.2.1]
  rw [← this]
  exact e_logRoom p adds (by omega) w
theorem xI {x : Option Nat} (hx : ∀ f, x = some f → f < 2 ^ 30) : oI x = -1 ↔ x = none := by
  cases x with
  | none => simp [oI]
  | some f =>
    have := hx f rfl
    simp only [oI]
    constructor
    · intro h
      exfalso
      have h1 := congrArg Int32.toInt h
      rw [nI_toInt (by omega)] at h1
      rw [show (-1 : Int32).toInt = -1 from by decide +kernel] at h1
      omega
    · intro h; cases h
theorem recI_lt {es : List En} {k E : Nat} {num : Int32} : ∀ j left o, recI es k E num j left = some o → o < j := by
  intro j
  induction j with
  | zero => intro left o h; cases h
  | succ j ih =>
    intro left o h
    unfold recI at h
    split at h
    · cases h
    · split at h
      · split at h
        · cases h; omega
        · have := ih _ _ h; omega
      · have := ih _ _ h; omega
theorem c_takeSent (x e p num : Int32) (part : Bool) (hs : SI (P, cap, tmo, clk, cl, cut, X, sy, torn, tE, tp, an)) (w : CS h (P, cap, tmo, clk, cl, cut, X, sy, torn, tE, tp, an)) : ev (d + 7) n_X4_takeSent [.ref 0, .int x, .int e, .int p, .int num, .int (b01 part)] h (fun u => ∃ Y, (F_send (P, cap, tmo, clk, cl, cut, X, sy, torn, tE, tp, an) x e p num part).2 = (P, cap, tmo, clk, cl, cut, Y, sy, torn, tE, [], an) ∧ u.1 = some (.int (F_send (P, cap, tmo, clk, cl, cut, X, sy, torn, tE, tp, an) x e p num part).1) ∧ FS cC h u.2 ∧ CE u.2 P cap tmo clk cl cut Y sy torn tE tp an (tS cl P Y)) := by
  obtain ⟨s1, s2, s3, s4, s5, s6, s7, s8, s9, hv, s11, s12, s13, s14, s15, s16, s17, s18⟩ := hs
  have w' : CE h P cap tmo clk cl cut X sy torn tE tp an (tS cl P X) := w
  have w1 := w'.obj'
  simp only [F_send]
  refine ev_of q_X4_takeSent (Nat.le_of_ble_eq_true rfl) ?_
  refine gs_n 1 a_X4_takeSent_0 rfl ?_
  refine gs_n 2 a_X4_takeSent_1 rfl ?_
  refine gs_n 3 a_X4_takeSent_2 rfl ?_
  refine gs_n 4 a_X4_takeSent_3 rfl ?_
  refine gs_n 5 a_X4_takeSent_4 rfl ?_
  refine gs_cv 8 a_X4_takeSent_5 k_4_125 q_X4_isPartition (c_isPart p w') rfl rfl rfl (by simp [Value.category]) (by first | assumption | exact hs_same _ _ _ | exact (hs_ne _ _ (by first | assumption | decide | omega)).trans (by first | assumption | exact hs_same _ _ _ | exact (hs_ne _ _ (by first | assumption | decide | omega)).trans (by first | assumption | exact hs_same _ _ _ | exact (hs_ne _ _ (by first | assumption | decide | omega)).trans (by first | assumption | exact hs_same _ _ _ | exact (hs_ne _ _ (by first | assumption | decide | omega)).trans (by first | assumption | exact hs_same _ _ _))))) rfl (fun v h1 hp => ?_)
  cases hp
  refine gs_cv 11 a_X4_takeSent_8 k_4_91 q_X4_refusalOf (c_refusal x e (isPn P p) (fun k hk => (T_b hv cl k hk).1) w') rfl rfl rfl (by simp [Value.category]) (by first | assumption | exact hs_same _ _ _ | exact (hs_ne _ _ (by first | assumption | decide | omega)).trans (by first | assumption | exact hs_same _ _ _ | exact (hs_ne _ _ (by first | assumption | decide | omega)).trans (by first | assumption | exact hs_same _ _ _ | exact (hs_ne _ _ (by first | assumption | decide | omega)).trans (by first | assumption | exact hs_same _ _ _ | exact (hs_ne _ _ (by first | assumption | decide | omega)).trans (by first | assumption | exact hs_same _ _ _))))) rfl (fun v h1 hp => ?_)
  cases hp
  refine gs_n 13 a_X4_takeSent_11 rfl ?_
  refine gs_n 15 a_X4_takeSent_13 rfl ?_
  refine gs_if 21 18 a_X4_takeSent_15 rfl rfl (fun c15 => ?_) (fun c15 => ?_)
  · have c15 : refF cl (tS cl P X) x e (isPn P p) = nI 0 := c15
    rw [if_neg (fun q => q c15)]
    obtain ⟨r1, r2, r3, r4, r5⟩ := refF_0 c15
    subst r1
    obtain ⟨rfl, hnd⟩ := s11 rfl
    rw [tS_f] at w' w1 r4 r5
    obtain ⟨hk, hx⟩ := isK_kn r3
    obtain ⟨hp, hpx⟩ := isPn_kn r2
    generalize hkk : kn x = k at *
    generalize hkp : kn p = pp at *
    subst hx
    subst hpx
    subst r5
    obtain ⟨y, hc⟩ := w'.cell' hk
    obtain ⟨f, hf, hf'⟩ := w'.pra
    obtain ⟨fl0, hfl, hfl'⟩ := w'.lga
    have hl := w'.log hp
    have hl1 := hl.1
    have hlen := hl.len
    have hTb := (T_b hv false k hk).2.1
    have hTe := (T_b hv false k hk).1
    rw [tS_f] at hTb hTe
    refine gs_n 22 a_X4_takeSent_21 rfl ?_
    refine gs_get 25 a_X4_takeSent_22 f_4_42 (by first | assumption | exact hs_same _ _ _ | exact (hs_ne _ _ (by first | assumption | decide | omega)).trans (by first | assumption | exact hs_same _ _ _ | exact (hs_ne _ _ (by first | assumption | decide | omega)).trans (by first | assumption | exact hs_same _ _ _ | exact (hs_ne _ _ (by first | assumption | decide | omega)).trans (by first | assumption | exact hs_same _ _ _ | exact (hs_ne _ _ (by first | assumption | decide | omega)).trans (by first | assumption | exact hs_same _ _ _))))) rfl rfl ?_
    refine gs_n 26 a_X4_takeSent_25 rfl ?_
    refine gs_aa k (64 + k) 27 a_X4_takeSent_26 (by first | assumption | exact hs_same _ _ _ | exact (hs_ne _ _ (by first | assumption | decide | omega)).trans (by first | assumption | exact hs_same _ _ _ | exact (hs_ne _ _ (by first | assumption | decide | omega)).trans (by first | assumption | exact hs_same _ _ _ | exact (hs_ne _ _ (by first | assumption | decide | omega)).trans (by first | assumption | exact hs_same _ _ _ | exact (hs_ne _ _ (by first | assumption | decide | omega)).trans (by first | assumption | exact hs_same _ _ _))))) rfl (by omega) (by decide) (by simp) (hf' k hk) rfl ?_
    refine gs_n 29 a_X4_takeSent_27 rfl ?_
    refine gs_n 31 a_X4_takeSent_29 rfl ?_
    refine gs_cv 34 a_X4_takeSent_31 k_4_71 q_X2_isOpen (e_isOpen hc) rfl rfl rfl (by simp [Value.category]) (by first | assumption | exact hs_same _ _ _ | exact (hs_ne _ _ (by first | assumption | decide | omega)).trans (by first | assumption | exact hs_same _ _ _ | exact (hs_ne _ _ (by first | assumption | decide | omega)).trans (by first | assumption | exact hs_same _ _ _ | exact (hs_ne _ _ (by first | assumption | decide | omega)).trans (by first | assumption | exact hs_same _ _ _ | exact (hs_ne _ _ (by first | assumption | decide | omega)).trans (by first | assumption | exact hs_same _ _ _))))) rfl (fun v h1 hp => ?_)
    cases hp
    rw [show (if m1 ((told P X).2.2.1 k) = -1 then nI 0 else nI 1) = b01 (!decide ((told P X).2.2.1 k = 0)) by
      by_cases z : (told P X).2.2.1 k = 0
      · rw [if_pos ((m1_no (by omega)).mpr z), decide_eq_true z]; rfl
      · rw [if_neg (fun q => z ((m1_no (by omega)).mp q)), decide_eq_false z]; rfl]
    refine gs_n 36 a_X4_takeSent_34 rfl ?_
    refine gs_ic 42 39 a_X4_takeSent_36 rfl rfl (fun c36 => ?_) (fun c36 => ?_)
    · have c36 : b01 (!decide ((told P X).2.2.1 k = 0)) = b01 part := c36
      have c36 : (!decide ((told P X).2.2.1 k = 0)) = part := by
        cases h1 : (!decide ((told P X).2.2.1 k = 0)) <;> cases h2 : part <;> rw [h1, h2] at c36 <;> first | rfl | exact absurd c36 (by decide +kernel)
      rw [if_neg (fun q => q c36)]
      rw [m1_p r4]
      refine gs_n 43 a_X4_takeSent_42 rfl ?_
      refine gs_get 46 a_X4_takeSent_43 f_4_26 (by first | assumption | exact hs_same _ _ _ | exact (hs_ne _ _ (by first | assumption | decide | omega)).trans (by first | assumption | exact hs_same _ _ _ | exact (hs_ne _ _ (by first | assumption | decide | omega)).trans (by first | assumption | exact hs_same _ _ _ | exact (hs_ne _ _ (by first | assumption | decide | omega)).trans (by first | assumption | exact hs_same _ _ _ | exact (hs_ne _ _ (by first | assumption | decide | omega)).trans (by first | assumption | exact hs_same _ _ _))))) rfl rfl ?_
      refine gs_n 47 a_X4_takeSent_46 rfl ?_
      refine gs_aa pp (16 + 6 * pp) 48 a_X4_takeSent_47 (by first | assumption | exact hs_same _ _ _ | exact (hs_ne _ _ (by first | assumption | decide | omega)).trans (by first | assumption | exact hs_same _ _ _ | exact (hs_ne _ _ (by first | assumption | decide | omega)).trans (by first | assumption | exact hs_same _ _ _ | exact (hs_ne _ _ (by first | assumption | decide | omega)).trans (by first | assumption | exact hs_same _ _ _ | exact (hs_ne _ _ (by first | assumption | decide | omega)).trans (by first | assumption | exact hs_same _ _ _))))) rfl (by omega) (by decide) (by simp) (hfl' pp (by omega)) rfl ?_
      refine gs_n 49 a_X4_takeSent_48 rfl ?_
      refine gs_n 50 a_X4_takeSent_49 rfl ?_
      refine gs_n 52 a_X4_takeSent_50 rfl ?_
      refine gs_cv 55 a_X4_takeSent_52 k_4_240 q_X1_offsetOfRecent (e_recent k ((told P X).2.1 k - 1) num (by omega) (by omega) hl) rfl rfl rfl (by simp [Value.category]) (by first | assumption | exact hs_same _ _ _ | exact (hs_ne _ _ (by first | assumption | decide | omega)).trans (by first | assumption | exact hs_same _ _ _ | exact (hs_ne _ _ (by first | assumption | decide | omega)).trans (by first | assumption | exact hs_same _ _ _ | exact (hs_ne _ _ (by first | assumption | decide | omega)).trans (by first | assumption | exact hs_same _ _ _ | exact (hs_ne _ _ (by first | assumption | decide | omega)).trans (by first | assumption | exact hs_same _ _ _))))) rfl (fun v h1 hp => ?_)
      cases hp
      cases hrec : recI (fl pp X) k ((told P X).2.1 k - 1) num (fl pp X).length 5 with
      | some o =>
        have hol := recI_lt _ _ _ hrec
        simp only [oI]
        refine gs_n 57 a_X4_takeSent_55 rfl ?_
        refine gs_n 59 a_X4_takeSent_57 rfl ?_
        refine gs_k (-1) 60 a_X4_takeSent_59 (by decide +kernel) rfl ?_
        refine gs_ic 66 63 a_X4_takeSent_60 rfl rfl (fun c60 => ?_) (fun c60 => ?_)
        · have c60 : nI o = -1 := c60
          have := (xI (x := some o) (fun f hf => by cases hf; omega)).mp c60
          cases this
        · refine gs_n 65 a_X4_takeSent_63 rfl ?_
          refine gs_iret a_X4_takeSent_65 rfl rfl ?_
          have hR : sndR P cap X tp k pp num part = (nI o, X) := by simp only [sndR, hrec]
          rw [hR]
          exact ⟨X, rfl, rfl, FS.rf _ _, w⟩
      | none =>
        simp only [oI]
        refine gs_n 57 a_X4_takeSent_55 rfl ?_
        refine gs_n 59 a_X4_takeSent_57 rfl ?_
        refine gs_k (-1) 60 a_X4_takeSent_59 (by decide +kernel) rfl ?_
        refine gs_ic 66 63 a_X4_takeSent_60 rfl rfl (fun c60 => ?_) (fun c60 => ?_)
        · refine gs_n 68 a_X4_takeSent_66 rfl ?_
          refine gs_n 69 a_X4_takeSent_68 rfl ?_
          refine gs_get 72 a_X4_takeSent_69 f_4_26 (by first | assumption | exact hs_same _ _ _ | exact (hs_ne _ _ (by first | assumption | decide | omega)).trans (by first | assumption | exact hs_same _ _ _ | exact (hs_ne _ _ (by first | assumption | decide | omega)).trans (by first | assumption | exact hs_same _ _ _ | exact (hs_ne _ _ (by first | assumption | decide | omega)).trans (by first | assumption | exact hs_same _ _ _ | exact (hs_ne _ _ (by first | assumption | decide | omega)).trans (by first | assumption | exact hs_same _ _ _))))) rfl rfl ?_
          refine gs_n 73 a_X4_takeSent_72 rfl ?_
          refine gs_aa pp (16 + 6 * pp) 74 a_X4_takeSent_73 (by first | assumption | exact hs_same _ _ _ | exact (hs_ne _ _ (by first | assumption | decide | omega)).trans (by first | assumption | exact hs_same _ _ _ | exact (hs_ne _ _ (by first | assumption | decide | omega)).trans (by first | assumption | exact hs_same _ _ _ | exact (hs_ne _ _ (by first | assumption | decide | omega)).trans (by first | assumption | exact hs_same _ _ _ | exact (hs_ne _ _ (by first | assumption | decide | omega)).trans (by first | assumption | exact hs_same _ _ _))))) rfl (by omega) (by decide) (by simp) (hfl' pp (by omega)) rfl ?_
          refine gs_n 75 a_X4_takeSent_74 rfl ?_
          refine gs_n 76 a_X4_takeSent_75 rfl ?_
          refine gs_cv 79 a_X4_takeSent_76 k_4_217 q_X1_nextOf (e_nextOf k ((told P X).2.1 k - 1) (by omega) (by omega) hl) rfl rfl rfl (by simp [Value.category]) (by first | assumption | exact hs_same _ _ _ | exact (hs_ne _ _ (by first | assumption | decide | omega)).trans (by first | assumption | exact hs_same _ _ _ | exact (hs_ne _ _ (by first | assumption | decide | omega)).trans (by first | assumption | exact hs_same _ _ _ | exact (hs_ne _ _ (by first | assumption | decide | omega)).trans (by first | assumption | exact hs_same _ _ _ | exact (hs_ne _ _ (by first | assumption | decide | omega)).trans (by first | assumption | exact hs_same _ _ _))))) rfl (fun v h1 hp => ?_)
          cases hp
          refine gs_ic 85 82 a_X4_takeSent_79 rfl rfl (fun c79 => ?_) (fun c79 => ?_)
          · have c79 : num = nI (nxt (fl pp X) k ((told P X).2.1 k - 1)) := c79
            have hg0 := pv_all hv
            obtain ⟨n, ep, tx, bg, ba, ad, lc, de, mq, nx, la, en, hT⟩ := told_ex P X
            rw [hT] at hg0
            have hlb := len_bound s2 s4 hg0.1.2.2.2.1 (fun q hq => Nat.le_trans (Nat.le_add_right _ _) (hg0.2.2.2.2.2 q hq))
            have hn1 := hg0.1.1
            have hn2 := hg0.2.2.2.2.1
            have hnx := nxt_le s18 hp (k := k) (E := (told P X).2.1 k - 1)
            have hkn : kn num = nxt (fl pp X) k ((told P X).2.1 k - 1) := by rw [c79]; unfold kn; rw [nI_toInt (by omega)]; omega
            have hc0 := hc
            unfold pcell at hc
            have hhas : ∀ (ls : ix_L), True := fun _ => trivial
            have room : ∀ (ab : Bool), ab = (part && !hasB ((told P X).2.2.2.2.2.1 k) pp) → gs none (d + 6) mD_X4_takeSent (104, [(7, .ref (64 + k)), (0, .ref 0), (1, .int (nI k)), (2, .int (nI ((told P X).2.1 k - 1))), (3, .int (nI pp)), (4, .int num), (5, .int (b01 part))], [.int (b01 ab)], h) (fun u => ∃ Y, (P, cap, tmo, clk, false, cut, (sndR P cap X tp k pp num part).2, sy, 0, tE, ([] : List Nat), an) = (P, cap, tmo, clk, false, cut, Y, sy, 0, tE, [], an) ∧ u.1 = some (.int (sndR P cap X tp k pp num part).1) ∧ FS cC h u.2 ∧ CE u.2 P cap tmo clk false cut Y sy 0 tE tp an (tS false P Y)) := by
              intro ab hab
              have hR : sndR P cap X tp k pp num part = (if (decide (bytesP pp X + 14 + tp.length + 14 * (cntA (told P X) pp + (if ab = true then 1 else 0)) ≤ cap) && (!ab || bkF (told P X) 0)) = false then (-8, X) else (nI (fl pp X).length, sX1 P X k pp part ++ [(pp, (if part then 1 else 0), k, (told P X).2.1 k - 1, kn num, tp.length, (if part then (told P X).2.2.1 k else 0), tp)])) := by
                simp only [sndR, hrec]
                rw [if_neg (fun q => q c79), ← hab]
                unfold sX1
                rw [← hab]
              rw [hR]
              have wr : decide (bytesP pp X + 14 + tp.length + 14 * (cntA (told P X) pp + (if ab = true then 1 else 0)) ≤ cap) = true → (!ab || bkF (told P X) 0) = true → gs none (d + 6) mD_X4_takeSent (132, [(9, .int (b01 ab)), (0, .ref 0), (1, .int (nI k)), (2, .int (nI ((told P X).2.1 k - 1))), (3, .int (nI pp)), (4, .int num), (5, .int (b01 part))], [], h) (fun u => ∃ Y, (P, cap, tmo, clk, false, cut, sX1 P X k pp part ++ [(pp, (if part then 1 else 0), k, (told P X).2.1 k - 1, kn num, tp.length, (if part then (told P X).2.2.1 k else 0), tp)], sy, 0, tE, ([] : List Nat), an) = (P, cap, tmo, clk, false, cut, Y, sy, 0, tE, [], an) ∧ u.1 = some (.int (nI (fl pp X).length)) ∧ FS cC h u.2 ∧ CE u.2 P cap tmo clk false cut Y sy 0 tE tp an (tS false P Y)) := by
                intro hr1 hr2
                have hr1' : bytesP pp X + 14 + tp.length + 14 * (cntA (told P X) pp + (if ab = true then 1 else 0)) ≤ cap := of_decide_eq_true hr1
                unfold noDec at hnd
                rw [hT] at hr1' hr2 hab hnd w' r4 c36 hkn hnx c79
                simp only at hr1' hab hnd w' r4 c36
                rw [hab] at hr1'
                obtain ⟨n1, ad1, v1, t1, f1, b1, r1, l1, l2⟩ := snd_ok (tp := tp) s2 hv hT hnd hk hp (fun q => by rw [← c36] at q; simpa using q) hr1' (fun q => by rw [← hab] at q; rw [q] at hr2; simpa using hr2)
                have hgX1 : GT P cap (sX1 P X k pp part) (n1, ep, tx, bg, ba, ad1, lc, de, mq, nx, la, en) := t1 ▸ pv_all v1
                have hbX1 : bytesP pp (sX1 P X k pp part) = bytesP pp X := by unfold bytesP; rw [f1]
                have htxb := (hg0.1.2.2.2.2.1 k hk).2.1
                have hnxb := hg0.1.2.1
                have hepb := (hg0.1.2.2.2.2.1 k hk).1
                have hrec2 := pv_rec (k := k) (num := kn num) (o := if part then tx k else 0) (pl := tp) part s2 v1 t1 hk hp (by rw [hkn]; omega) s14 s15 rfl (fun q => ⟨by rw [← c36] at q; simpa using q, hnd k hk, b1 q⟩) (by rw [hbX1]; omega)
                have fin : ∀ (h2 : ix_H) (kd : Nat), kd = (if part then 1 else 0) → FS cC h h2 → CE h2 P cap tmo clk false cut (sX1 P X k pp part) sy 0 tE tp an (n1, ep, tx, bg, ba, ad1, lc, de, mq, nx, la, en) → gs none (d + 6) mD_X4_takeSent (158, [(0, .ref 0), (1, .int (nI k)), (2, .int (nI (ep k - 1))), (3, .int (nI pp)), (4, .int num), (5, .int (b01 part))], [.int (nI kd), .int (nI pp), .ref 0], h2) (fun u => ∃ Y, (P, cap, tmo, clk, false, cut, sX1 P X k pp part ++ [(pp, (if part then 1 else 0), k, ep k - 1, kn num, tp.length, (if part then tx k else 0), tp)], sy, 0, tE, ([] : List Nat), an) = (P, cap, tmo, clk, false, cut, Y, sy, 0, tE, [], an) ∧ u.1 = some (.int (nI (fl pp X).length)) ∧ FS cC h u.2 ∧ CE u.2 P cap tmo clk false cut Y sy 0 tE tp an (tS false P Y)) := by
                  intro h2 kd hkd hF2 w2
                  have q1 := w2.obj'
                  have e9 : num = nI (kn num) := by rw [hkn]; exact c79
                  generalize hmm : kn num = mm at *
                  subst e9
                  refine gs_n 159 a_X4_takeSent_158 rfl ?_
                  refine gs_n 160 a_X4_takeSent_159 rfl ?_
                  refine gs_n 162 a_X4_takeSent_160 rfl ?_
                  refine gs_n 163 a_X4_takeSent_162 rfl ?_
                  refine gs_get 166 a_X4_takeSent_163 f_4_14 (by first | assumption | exact hs_same _ _ _ | exact (hs_ne _ _ (by first | assumption | decide | omega)).trans (by first | assumption | exact hs_same _ _ _ | exact (hs_ne _ _ (by first | assumption | decide | omega)).trans (by first | assumption | exact hs_same _ _ _ | exact (hs_ne _ _ (by first | assumption | decide | omega)).trans (by first | assumption | exact hs_same _ _ _ | exact (hs_ne _ _ (by first | assumption | decide | omega)).trans (by first | assumption | exact hs_same _ _ _))))) rfl rfl ?_
                  refine gs_cv 169 a_X4_takeSent_166 k_4_250 q_X4_writeToLog (c_log (r := 1) (a' := 2) (N := 40) (pay := tp) pp kd k (ep k - 1) mm (if part then tx k else 0) s4 s2 hp (Or.inl ⟨rfl, rfl, rfl, rfl⟩) (okE_part s2 hp (by rw [hkd]; split <;> omega) hk (by omega) (by rw [hkn]; omega) s14 (by split <;> omega) s15) hgX1 (by rw [hbX1]; omega) w2) rfl rfl rfl (by simp [Value.category]) (by first | assumption | exact hs_same _ _ _ | exact (hs_ne _ _ (by first | assumption | decide | omega)).trans (by first | assumption | exact hs_same _ _ _ | exact (hs_ne _ _ (by first | assumption | decide | omega)).trans (by first | assumption | exact hs_same _ _ _ | exact (hs_ne _ _ (by first | assumption | decide | omega)).trans (by first | assumption | exact hs_same _ _ _ | exact (hs_ne _ _ (by first | assumption | decide | omega)).trans (by first | assumption | exact hs_same _ _ _))))) rfl (fun v h3 hp => ?_)
                  obtain ⟨e1, hF3, w3⟩ := hp
                  simp only at e1
                  subst e1
                  refine gs_iret a_X4_takeSent_169 rfl rfl ?_
                  refine ⟨_, rfl, by rw [f1], hF2.trans hF3, ?_⟩
                  rw [tS_f, hrec2.2, ← hkd]
                  exact w3
                rw [hT]
                simp only
                rw [hT] at w1
                refine gs_n 134 a_X4_takeSent_132 rfl ?_
                refine gs_if 146 137 a_X4_takeSent_134 rfl rfl (fun c134 => ?_) (fun c134 => ?_)
                · have c134 := (b01_0 _).mp c134
                  have hX1 : sX1 P X k pp part = X := by unfold sX1; rw [hT]; simp only; rw [← hab, c134]; rfl
                  have w2 : CE h P cap tmo clk false cut (sX1 P X k pp part) sy 0 tE tp an (n1, ep, tx, bg, ba, ad1, lc, de, mq, nx, la, en) := by rw [← t1, hX1, hT]; exact w'
                  refine gs_n 147 a_X4_takeSent_146 rfl ?_
                  refine gs_n 148 a_X4_takeSent_147 rfl ?_
                  refine gs_n 150 a_X4_takeSent_148 rfl ?_
                  refine gs_if 157 153 a_X4_takeSent_150 rfl rfl (fun c150 => ?_) (fun c150 => ?_)
                  · have c150 := (b01_0 _).mp c150
                    refine gs_k (nI 0) 158 a_X4_takeSent_157 (by decide +kernel) rfl ?_
                    refine gs_w [(0, .ref 0), (1, .int (nI k)), (2, .int (nI (ep k - 1))), (3, .int (nI pp)), (4, .int num), (5, .int (b01 part))] (by simp [ix_nd]) (by intro x hx; simp only [List.mem_cons, List.not_mem_nil, or_false] at hx; rcases hx with rfl | rfl | rfl | rfl | rfl | rfl <;> rfl) ?_
                    exact fin h 0 (by rw [c150]; rfl) (FS.rf _ _) w2
                  · have c150 := (b01_ne _).mp c150
                    refine gs_k (nI 1) 154 a_X4_takeSent_153 (by decide +kernel) rfl ?_
                    refine gs_n 158 a_X4_takeSent_154 rfl ?_
                    refine gs_w [(0, .ref 0), (1, .int (nI k)), (2, .int (nI (ep k - 1))), (3, .int (nI pp)), (4, .int num), (5, .int (b01 part))] (by simp [ix_nd]) (by intro x hx; simp only [List.mem_cons, List.not_mem_nil, or_false] at hx; rcases hx with rfl | rfl | rfl | rfl | rfl | rfl <;> rfl) ?_
                    exact fin h 1 (by rw [c150]; rfl) (FS.rf _ _) w2
                · have c134 := (b01_ne _).mp c134
                  have hX1 : sX1 P X k pp part = X ++ [(P, 2, k, ep k - 1, pp, 0, 0, [])] := by unfold sX1; rw [hT]; simp only; rw [← hab, c134]; rfl
                  rw [c134] at hr2
                  have hb0 : bkF (n, ep, tx, bg, ba, ad, lc, de, mq, nx, la, en) 0 = true := by simpa using hr2
                  have hb' : 16 * n + 16 + 48 * (cnt (fun k => !decide (tx k = 0)) 32 + 0) ≤ 16000 := of_decide_eq_true hb0
                  refine gs_n 138 a_X4_takeSent_137 rfl ?_
                  refine gs_k (nI 2) 139 a_X4_takeSent_138 (by decide +kernel) rfl ?_
                  refine gs_n 140 a_X4_takeSent_139 rfl ?_
                  refine gs_n 141 a_X4_takeSent_140 rfl ?_
                  refine gs_n 142 a_X4_takeSent_141 rfl ?_
                  refine gs_k (nI 0) 143 a_X4_takeSent_142 (by decide +kernel) rfl ?_
                  refine gs_cv 146 a_X4_takeSent_143 k_4_101 q_X4_writeToBook (c_book 2 k (ep k - 1) pp 0 s4 s2 (okE_book s2 (by omega) hk (by omega) (by omega) (by omega) (by omega)) hg0 (by show 16 * n + 16 ≤ 16000; omega) (by omega) (by omega) w') rfl rfl rfl (by simp [Value.category]) (by first | assumption | exact hs_same _ _ _ | exact (hs_ne _ _ (by first | assumption | decide | omega)).trans (by first | assumption | exact hs_same _ _ _ | exact (hs_ne _ _ (by first | assumption | decide | omega)).trans (by first | assumption | exact hs_same _ _ _ | exact (hs_ne _ _ (by first | assumption | decide | omega)).trans (by first | assumption | exact hs_same _ _ _ | exact (hs_ne _ _ (by first | assumption | decide | omega)).trans (by first | assumption | exact hs_same _ _ _))))) rfl (fun v h2 hp => ?_)
                  obtain ⟨e1, hF2, w2'⟩ := hp
                  simp only at e1
                  subst e1
                  have w2 : CE h2 P cap tmo clk false cut (sX1 P X k pp part) sy 0 tE tp an (n1, ep, tx, bg, ba, ad1, lc, de, mq, nx, la, en) := by
                    rw [← t1, hX1, told_snoc, if_pos rfl, hT]
                    exact w2'
                  have q1 := w2.obj'
                  refine gs_n 147 a_X4_takeSent_146 rfl ?_
                  refine gs_n 148 a_X4_takeSent_147 rfl ?_
                  refine gs_n 150 a_X4_takeSent_148 rfl ?_
                  refine gs_if 157 153 a_X4_takeSent_150 rfl rfl (fun c150 => ?_) (fun c150 => ?_)
                  · have c150 := (b01_0 _).mp c150
                    refine gs_k (nI 0) 158 a_X4_takeSent_157 (by decide +kernel) rfl ?_
                    refine gs_w [(0, .ref 0), (1, .int (nI k)), (2, .int (nI (ep k - 1))), (3, .int (nI pp)), (4, .int num), (5, .int (b01 part))] (by simp [ix_nd]) (by intro x hx; simp only [List.mem_cons, List.not_mem_nil, or_false] at hx; rcases hx with rfl | rfl | rfl | rfl | rfl | rfl <;> rfl) ?_
                    exact fin h2 0 (by rw [c150]; rfl) hF2 w2
                  · have c150 := (b01_ne _).mp c150
                    refine gs_k (nI 1) 154 a_X4_takeSent_153 (by decide +kernel) rfl ?_
                    refine gs_n 158 a_X4_takeSent_154 rfl ?_
                    refine gs_w [(0, .ref 0), (1, .int (nI k)), (2, .int (nI (ep k - 1))), (3, .int (nI pp)), (4, .int num), (5, .int (b01 part))] (by simp [ix_nd]) (by intro x hx; simp only [List.mem_cons, List.not_mem_nil, or_false] at hx; rcases hx with rfl | rfl | rfl | rfl | rfl | rfl <;> rfl) ?_
                    exact fin h2 1 (by rw [c150]; rfl) hF2 w2
              refine gs_n 106 a_X4_takeSent_104 rfl ?_
              refine gs_n 107 a_X4_takeSent_106 rfl ?_
              refine gs_n 108 a_X4_takeSent_107 rfl ?_
              refine gs_n 110 a_X4_takeSent_108 rfl ?_
              refine gs_cv 113 a_X4_takeSent_110 k_4_246 q_X4_logHasRoom (c_logRoom ab hp w') rfl rfl rfl (by simp [Value.category]) (by first | assumption | exact hs_same _ _ _ | exact (hs_ne _ _ (by first | assumption | decide | omega)).trans (by first | assumption | exact hs_same _ _ _ | exact (hs_ne _ _ (by first | assumption | decide | omega)).trans (by first | assumption | exact hs_same _ _ _ | exact (hs_ne _ _ (by first | assumption | decide | omega)).trans (by first | assumption | exact hs_same _ _ _ | exact (hs_ne _ _ (by first | assumption | decide | omega)).trans (by first | assumption | exact hs_same _ _ _))))) rfl (fun v h1 hp => ?_)
              cases hp
              refine gs_if 129 116 a_X4_takeSent_113 rfl rfl (fun c113 => ?_) (fun c113 => ?_)
              · have c113 := (b01_0 _).mp c113
                rw [if_pos (by rw [c113]; rfl)]
                refine gs_k (-8) 131 a_X4_takeSent_129 (by decide +kernel) rfl ?_
                refine gs_iret a_X4_takeSent_131 rfl rfl ?_
                exact ⟨X, rfl, rfl, FS.rf _ _, w⟩
              · have c113 := (b01_ne _).mp c113
                refine gs_n 118 a_X4_takeSent_116 rfl ?_
                refine gs_if 132 121 a_X4_takeSent_118 rfl rfl (fun c118 => ?_) (fun c118 => ?_)
                · have c118 := (b01_0 _).mp c118
                  rw [if_neg (by rw [c113, c118]; simp)]
                  refine gs_w [(9, .int (b01 ab)), (0, .ref 0), (1, .int (nI k)), (2, .int (nI ((told P X).2.1 k - 1))), (3, .int (nI pp)), (4, .int num), (5, .int (b01 part))] (by simp [ix_nd]) (by intro x hx; simp only [List.mem_cons, List.not_mem_nil, or_false] at hx; rcases hx with rfl | rfl | rfl | rfl | rfl | rfl | rfl <;> rfl) ?_
                  exact wr c113 (by rw [c118]; rfl)
                · have c118 := (b01_ne _).mp c118
                  refine gs_n 122 a_X4_takeSent_121 rfl ?_
                  refine gs_k (nI 0) 123 a_X4_takeSent_122 (by decide +kernel) rfl ?_
                  refine gs_cv 126 a_X4_takeSent_123 k_4_82 q_X4_bookHasRoom (c_bookRoom (more := 0) (by omega) (told_n hv) (fun k hk => (T_b hv false k hk).2.1) w') rfl rfl rfl (by simp [Value.category]) (by first | assumption | exact hs_same _ _ _ | exact (hs_ne _ _ (by first | assumption | decide | omega)).trans (by first | assumption | exact hs_same _ _ _ | exact (hs_ne _ _ (by first | assumption | decide | omega)).trans (by first | assumption | exact hs_same _ _ _ | exact (hs_ne _ _ (by first | assumption | decide | omega)).trans (by first | assumption | exact hs_same _ _ _ | exact (hs_ne _ _ (by first | assumption | decide | omega)).trans (by first | assumption | exact hs_same _ _ _))))) rfl (fun v h1 hp => ?_)
                  cases hp
                  refine gs_if 132 129 a_X4_takeSent_126 rfl rfl (fun c126 => ?_) (fun c126 => ?_)
                  · have c126 := (b01_ne _).mp c126
                    rw [if_neg (by rw [c113, c118, c126]; simp)]
                    refine gs_w [(9, .int (b01 ab)), (0, .ref 0), (1, .int (nI k)), (2, .int (nI ((told P X).2.1 k - 1))), (3, .int (nI pp)), (4, .int num), (5, .int (b01 part))] (by simp [ix_nd]) (by intro x hx; simp only [List.mem_cons, List.not_mem_nil, or_false] at hx; rcases hx with rfl | rfl | rfl | rfl | rfl | rfl | rfl <;> rfl) ?_
                    exact wr c113 (by rw [c126]; simp)
                  · have c126 : bkF (told P X) 0 = false := (b01_0 _).mp (Classical.byContradiction c126)
                    rw [if_pos (by rw [c118, c126]; simp)]
                    refine gs_k (-8) 131 a_X4_takeSent_129 (by decide +kernel) rfl ?_
                    refine gs_iret a_X4_takeSent_131 rfl rfl ?_
                    exact ⟨X, rfl, rfl, FS.rf _ _, w⟩
            refine gs_n 87 a_X4_takeSent_85 rfl ?_
            refine gs_if 103 90 a_X4_takeSent_87 rfl rfl (fun c87 => ?_) (fun c87 => ?_)
            · have c87 := (b01_0 _).mp c87
              refine gs_k (nI 0) 104 a_X4_takeSent_103 (by decide +kernel) rfl ?_
              refine gs_w [(7, .ref (64 + k)), (0, .ref 0), (1, .int (nI k)), (2, .int (nI ((told P X).2.1 k - 1))), (3, .int (nI pp)), (4, .int num), (5, .int (b01 part))] (by simp [ix_nd]) (by intro x hx; simp only [List.mem_cons, List.not_mem_nil, or_false] at hx; rcases hx with rfl | rfl | rfl | rfl | rfl | rfl | rfl <;> rfl) ?_
              exact room false (by rw [c87]; rfl)
            · have c87 := (b01_ne _).mp c87
              refine gs_n 92 a_X4_takeSent_90 rfl ?_
              refine gs_n 93 a_X4_takeSent_92 rfl ?_
              refine gs_cv 96 a_X4_takeSent_93 k_4_243 q_X2_hasAdded (e_hasAdded (nI pp) hc0) rfl rfl rfl (by simp [Value.category]) (by first | assumption | exact hs_same _ _ _ | exact (hs_ne _ _ (by first | assumption | decide | omega)).trans (by first | assumption | exact hs_same _ _ _ | exact (hs_ne _ _ (by first | assumption | decide | omega)).trans (by first | assumption | exact hs_same _ _ _ | exact (hs_ne _ _ (by first | assumption | decide | omega)).trans (by first | assumption | exact hs_same _ _ _ | exact (hs_ne _ _ (by first | assumption | decide | omega)).trans (by first | assumption | exact hs_same _ _ _))))) rfl (fun v h1 hp => ?_)
              cases hp
              rw [mbit_b01]
              refine gs_if 103 99 a_X4_takeSent_96 rfl rfl (fun c96 => ?_) (fun c96 => ?_)
              · have c96 := (b01_ne _).mp c96
                refine gs_k (nI 0) 104 a_X4_takeSent_103 (by decide +kernel) rfl ?_
                refine gs_w [(7, .ref (64 + k)), (0, .ref 0), (1, .int (nI k)), (2, .int (nI ((told P X).2.1 k - 1))), (3, .int (nI pp)), (4, .int num), (5, .int (b01 part))] (by simp [ix_nd]) (by intro x hx; simp only [List.mem_cons, List.not_mem_nil, or_false] at hx; rcases hx with rfl | rfl | rfl | rfl | rfl | rfl | rfl <;> rfl) ?_
                exact room false (by rw [c96]; simp)
              · have c96 : hasB ((told P X).2.2.2.2.2.1 k) pp = false := (b01_0 _).mp (Classical.byContradiction c96)
                refine gs_k (nI 1) 100 a_X4_takeSent_99 (by decide +kernel) rfl ?_
                refine gs_n 104 a_X4_takeSent_100 rfl ?_
                refine gs_w [(7, .ref (64 + k)), (0, .ref 0), (1, .int (nI k)), (2, .int (nI ((told P X).2.1 k - 1))), (3, .int (nI pp)), (4, .int num), (5, .int (b01 part))] (by simp [ix_nd]) (by intro x hx; simp only [List.mem_cons, List.not_mem_nil, or_false] at hx; rcases hx with rfl | rfl | rfl | rfl | rfl | rfl | rfl <;> rfl) ?_
                exact room true (by rw [c96, c87]; rfl)
          · have c79 : ¬ num = nI (nxt (fl pp X) k ((told P X).2.1 k - 1)) := c79
            refine gs_k (-6) 84 a_X4_takeSent_82 (by decide +kernel) rfl ?_
            refine gs_iret a_X4_takeSent_84 rfl rfl ?_
            have hR : sndR P cap X tp k pp num part = (-6, X) := by simp only [sndR, hrec]; rw [if_pos c79]
            rw [hR]
            exact ⟨X, rfl, rfl, FS.rf _ _, w⟩
        · exact absurd rfl c60
    · have c36 : ¬ b01 (!decide ((told P X).2.2.1 k = 0)) = b01 part := c36
      rw [if_pos (fun q => c36 (by rw [q]))]
      refine gs_k (-5) 41 a_X4_takeSent_39 (by decide +kernel) rfl ?_
      refine gs_iret a_X4_takeSent_41 rfl rfl ?_
      exact ⟨X, rfl, rfl, FS.rf _ _, w⟩
  · rw [if_pos (show refF cl (tS cl P X) x e (isPn P p) ≠ nI 0 from c15)]
    refine gs_n 20 a_X4_takeSent_18 rfl ?_
    refine gs_iret a_X4_takeSent_20 rfl rfl ?_
    exact ⟨X, rfl, rfl, FS.rf _ _, w⟩
theorem c_send (x e p num : Int32) (part : Bool) (hs : SI (P, cap, tmo, clk, cl, cut, X, sy, torn, tE, tp, an)) (w : CS h (P, cap, tmo, clk, cl, cut, X, sy, torn, tE, tp, an)) : ev (d + 8) n_X4_send [.ref 0, .int x, .int e, .int p, .int num, .int (b01 part)] h (fun u => u.1 = some (.int (F_send (P, cap, tmo, clk, cl, cut, X, sy, torn, tE, tp, an) x e p num part).1) ∧ FS cC h u.2 ∧ CS u.2 (F_send (P, cap, tmo, clk, cl, cut, X, sy, torn, tE, tp, an) x e p num part).2) := by
  have w' : CE h P cap tmo clk cl cut X sy torn tE tp an (tS cl P X) := w
  have w1 := w'.obj'
  refine ev_of q_X4_send (Nat.le_of_ble_eq_true rfl) ?_
  refine gs_n 1 a_X4_send_0 rfl ?_
  refine gs_n 2 a_X4_send_1 rfl ?_
  refine gs_n 3 a_X4_send_2 rfl ?_
  refine gs_n 4 a_X4_send_3 rfl ?_
  refine gs_n 6 a_X4_send_4 rfl ?_
  refine gs_n 8 a_X4_send_6 rfl ?_
  refine gs_cv 11 a_X4_send_8 k_4_105 q_X4_takeSent (c_takeSent x e p num part hs w) rfl rfl rfl (by simp [Value.category]) (by first | assumption | exact hs_same _ _ _ | exact (hs_ne _ _ (by first | assumption | decide | omega)).trans (by first | assumption | exact hs_same _ _ _ | exact (hs_ne _ _ (by first | assumption | decide | omega)).trans (by first | assumption | exact hs_same _ _ _ | exact (hs_ne _ _ (by first | assumption | decide | omega)).trans (by first | assumption | exact hs_same _ _ _ | exact (hs_ne _ _ (by first | assumption | decide | omega)).trans (by first | assumption | exact hs_same _ _ _))))) rfl (fun v h2 hp => ?_)
  obtain ⟨Y, e0, e1, hF, w2⟩ := hp
  simp only at e1
  subst e1
  have q1 := w2.obj'
  have q2 := w2.tape.1
  refine gs_n 13 a_X4_send_11 rfl ?_
  refine gs_n 14 a_X4_send_13 rfl ?_
  refine gs_get 17 a_X4_send_14 f_4_14 (by first | assumption | exact hs_same _ _ _ | exact (hs_ne _ _ (by first | assumption | decide | omega)).trans (by first | assumption | exact hs_same _ _ _ | exact (hs_ne _ _ (by first | assumption | decide | omega)).trans (by first | assumption | exact hs_same _ _ _ | exact (hs_ne _ _ (by first | assumption | decide | omega)).trans (by first | assumption | exact hs_same _ _ _ | exact (hs_ne _ _ (by first | assumption | decide | omega)).trans (by first | assumption | exact hs_same _ _ _))))) rfl rfl ?_
  refine gs_cv 20 a_X4_send_17 k_4_109 q_X0_clear (e_clear w2.tape) rfl rfl rfl (by simp [Value.category]) (by first | assumption | exact hs_same _ _ _ | exact (hs_ne _ _ (by first | assumption | decide | omega)).trans (by first | assumption | exact hs_same _ _ _ | exact (hs_ne _ _ (by first | assumption | decide | omega)).trans (by first | assumption | exact hs_same _ _ _ | exact (hs_ne _ _ (by first | assumption | decide | omega)).trans (by first | assumption | exact hs_same _ _ _ | exact (hs_ne _ _ (by first | assumption | decide | omega)).trans (by first | assumption | exact hs_same _ _ _))))) rfl (fun v h3 hp => ?_)
  obtain ⟨e1, hF3, hr3⟩ := hp
  simp only at e1
  subst e1
  refine gs_n 22 a_X4_send_20 rfl ?_
  refine gs_iret a_X4_send_22 rfl rfl ?_
  refine ⟨rfl, hF.trans (FS.of hF3 (by intro k hk; simp at hk; unfold cC; omega)), ?_⟩
  rw [e0]
  exact w2.setT hF3 hr3
end C8
