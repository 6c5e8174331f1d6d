/-! The reference: fetch, partition, entry -/
section R11
variable {d : Nat} {h : ix_H} {P cap tmo clk cut sy torn : Nat} {cl : Bool} {X : List En} {tE : En} {tp an : List Nat} {T : TS} {ar : Nat → Nat → Int32} {a1 a2 a3 : Nat} {a4 : Bool} {a5 a7 a8 a9 a10 a11 a12 : Nat}
theorem le0_iff (x : Int32) : 0 ≤ x ↔ 0 ≤ x.toInt := by rw [Int32.le_iff_toInt_le]; simp
theorem le0_iff' (x : Int32) : x ≤ 0 ↔ x.toInt ≤ 0 := by rw [Int32.le_iff_toInt_le]; simp
theorem ff_st {Q : Nat → Bool} {n m : Nat} (hm : m < n) : ff Q n (n - m) = if Q m then some m else ff Q n (n - (m + 1)) := by
  obtain ⟨k, hk⟩ : ∃ k, n - m = k + 1 := ⟨n - m - 1, by omega⟩
  rw [hk, show n - (m + 1) = k by omega]
  show (if Q (n - (k + 1)) then some (n - (k + 1)) else ff Q n k) = _
  rw [show n - (k + 1) = m by omega]
theorem ff_cut {Q R : Nat → Bool} {n s : Nat} (hs : s ≤ n) (h1 : ∀ o, s ≤ o → o < n → Q o = false) (h2 : ∀ o, o < s → Q o = R o) : ∀ k m, n - m = k → ff Q n (n - m) = ff R s (s - m) := by
  intro k
  induction k with
  | zero =>
    intro m hk
    rw [hk, show s - m = 0 by omega]
    rfl
  | succ k ih =>
    intro m hk
    rw [ff_st (by omega)]
    by_cases z : m < s
    · rw [ff_st z, h2 m z, ih (m + 1) (by omega)]
    · rw [h1 m (by omega) (by omega), ih (m + 1) (by omega), show s - (m + 1) = 0 by omega, show s - m = 0 by omega]
      rfl
theorem off_see (L : List En) (m : Nat) (c : Bool) : ff (seeS L c (stb L)) L.length (L.length - m) = offF L m c := by
  unfold offF
  cases c with
  | true =>
    rw [if_pos rfl]
    exact ff_cut (stb_le L) (fun o h1 _ => by rw [seeS_t, decide_eq_false (by omega)]; rfl) (fun o h1 => by rw [seeS_t, decide_eq_true h1]; rfl) _ m rfl
  | false =>
    rw [if_neg (by simp)]
    congr 1
    funext o
    unfold seeS
    simp
theorem l_fcopy {h0 : ix_H} {Q : ix_O → Prop} {j : Nat} {n : Int32} {pl : List Nat} (hj : j < 4200) (hn : pl.length ≤ 40) (A : Nat → Nat → Int32) {a0 a6 : Nat} (h7 : ∀ x, x < pl.length → A 7 (40 * j + x) = sg (pl.getD x 0))
    (kk : ∀ h2 g, FS cM h0 h2 → MW h2 (a0, a1, a2, a3, a4, a5, a6, a7, a8, a9, a10, a11, pl.length) (va_up A 19 g) → (∀ x, x < pl.length → g x = sg (pl.getD x 0)) → gs none d mD_X5_fetch (131, [(5, .int n)], [], h2) Q) :
    ∀ (r i : Nat) (h : ix_H) (g : Nat → Int32), i + r = pl.length → FS cM h0 h → MW h (a0, a1, a2, a3, a4, a5, a6, a7, a8, a9, a10, a11, pl.length) (va_up A 19 g) → (∀ x, x < i → g x = sg (pl.getD x 0)) → gs none d mD_X5_fetch (96, [(7, .int (nI i)), (5, .int n), (6, .int (nI j)), (0, .ref 96)], [], h) Q := by
  intro r
  induction r with
  | zero =>
    intro i h g hi hF w h1
    have hlen : i = pl.length := by omega
    have w0 := w.1
    simp only [mcell] at w0
    refine gs_n 98 a_X5_fetch_96 rfl ?_
    refine gs_n 99 a_X5_fetch_98 rfl ?_
    refine gs_get 102 a_X5_fetch_99 f_5_115 (by first | assumption | exact hs_same _ _ _ | exact (hs_ne _ _ (by first | assumption | decide | omega)).trans (by first | assumption | exact hs_same _ _ _ | exact (hs_ne _ _ (by first | assumption | decide | omega)).trans (by first | assumption | exact hs_same _ _ _ | exact (hs_ne _ _ (by first | assumption | decide | omega)).trans (by first | assumption | exact hs_same _ _ _ | exact (hs_ne _ _ (by first | assumption | decide | omega)).trans (by first | assumption | exact hs_same _ _ _))))) rfl rfl ?_
    refine gs_ic 131 105 a_X5_fetch_102 rfl rfl (fun c => ?_) (fun c => ?_)
    · refine gs_w [(5, .int n)] (by simp [ix_nd]) (by intro x hx; simp only [List.mem_cons, List.not_mem_nil, or_false] at hx; rcases hx with rfl <;> rfl) ?_
      exact kk h g hF w (fun x hx => h1 x (by omega))
    · exact absurd (nI_le (by omega) (by omega)) c
  | succ r ih =>
    intro i h g hi hF w h1
    have wd := w.s19 (upd g i (sg (pl.getD i 0)))
    rw [va_idem] at wd
    obtain ⟨w0, w1, w2, w3, w4, w5, w6, w7, w8, w9, w10, w11, w12, w13, w14, w15, w16, w17, w18, w19, w20, -⟩ := w
    simp only [mcell] at w0
    rw [va_up_ne _ _ (by decide)] at w8
    rw [va_up_self] at w20
    refine gs_n 98 a_X5_fetch_96 rfl ?_
    refine gs_n 99 a_X5_fetch_98 rfl ?_
    refine gs_get 102 a_X5_fetch_99 f_5_115 (by first | assumption | exact hs_same _ _ _ | exact (hs_ne _ _ (by first | assumption | decide | omega)).trans (by first | assumption | exact hs_same _ _ _ | exact (hs_ne _ _ (by first | assumption | decide | omega)).trans (by first | assumption | exact hs_same _ _ _ | exact (hs_ne _ _ (by first | assumption | decide | omega)).trans (by first | assumption | exact hs_same _ _ _ | exact (hs_ne _ _ (by first | assumption | decide | omega)).trans (by first | assumption | exact hs_same _ _ _))))) rfl rfl ?_
    refine gs_ic 131 105 a_X5_fetch_102 rfl rfl (fun c => ?_) (fun c => ?_)
    · exact absurd c (nI_ge (by omega) (by omega))
    · refine gs_n 106 a_X5_fetch_105 rfl ?_
      refine gs_get 109 a_X5_fetch_106 f_5_70 (by first | assumption | exact hs_same _ _ _ | exact (hs_ne _ _ (by first | assumption | decide | omega)).trans (by first | assumption | exact hs_same _ _ _ | exact (hs_ne _ _ (by first | assumption | decide | omega)).trans (by first | assumption | exact hs_same _ _ _ | exact (hs_ne _ _ (by first | assumption | decide | omega)).trans (by first | assumption | exact hs_same _ _ _ | exact (hs_ne _ _ (by first | assumption | decide | omega)).trans (by first | assumption | exact hs_same _ _ _))))) rfl rfl ?_
      refine gs_n 111 a_X5_fetch_109 rfl ?_
      refine gs_n 112 a_X5_fetch_111 rfl ?_
      refine gs_get 115 a_X5_fetch_112 f_5_32 (by first | assumption | exact hs_same _ _ _ | exact (hs_ne _ _ (by first | assumption | decide | omega)).trans (by first | assumption | exact hs_same _ _ _ | exact (hs_ne _ _ (by first | assumption | decide | omega)).trans (by first | assumption | exact hs_same _ _ _ | exact (hs_ne _ _ (by first | assumption | decide | omega)).trans (by first | assumption | exact hs_same _ _ _ | exact (hs_ne _ _ (by first | assumption | decide | omega)).trans (by first | assumption | exact hs_same _ _ _))))) rfl rfl ?_
      refine gs_k (nI 40) 117 a_X5_fetch_115 (by decide +kernel) rfl ?_
      refine gs_n 119 a_X5_fetch_117 rfl ?_
      refine gs_n 120 a_X5_fetch_119 rfl ?_
      refine gs_n 122 a_X5_fetch_120 rfl ?_
      refine gs_n 123 a_X5_fetch_122 rfl ?_
      rw [pk_mul, nI_add]
      refine gs_ba (40 * j + i) 124 a_X5_fetch_123 (by first | assumption | exact hs_same _ _ _ | exact (hs_ne _ _ (by first | assumption | decide | omega)).trans (by first | assumption | exact hs_same _ _ _ | exact (hs_ne _ _ (by first | assumption | decide | omega)).trans (by first | assumption | exact hs_same _ _ _ | exact (hs_ne _ _ (by first | assumption | decide | omega)).trans (by first | assumption | exact hs_same _ _ _ | exact (hs_ne _ _ (by first | assumption | decide | omega)).trans (by first | assumption | exact hs_same _ _ _))))) rfl (by omega) (by omega) rfl ?_
      rw [h7 i (by omega)]
      refine gs_bs i 125 a_X5_fetch_124 (by first | assumption | exact hs_same _ _ _ | exact (hs_ne _ _ (by first | assumption | decide | omega)).trans (by first | assumption | exact hs_same _ _ _ | exact (hs_ne _ _ (by first | assumption | decide | omega)).trans (by first | assumption | exact hs_same _ _ _ | exact (hs_ne _ _ (by first | assumption | decide | omega)).trans (by first | assumption | exact hs_same _ _ _ | exact (hs_ne _ _ (by first | assumption | decide | omega)).trans (by first | assumption | exact hs_same _ _ _))))) rfl (by omega) (by omega) rfl ?_
      rw [sg_sg]
      first | refine gs_inc _ 128 a_X5_fetch_125 rfl (Nat.le_of_ble_eq_true rfl) rfl ?_ | refine gs_n 128 a_X5_fetch_125 rfl ?_
      refine gs_n 96 a_X5_fetch_128 rfl ?_
      refine gs_w [(7, .int (nI (i + 1))), (5, .int n), (6, .int (nI j)), (0, .ref 96)] (by simp [ix_nd]) (by intro x hx; simp only [List.mem_cons, List.not_mem_nil, or_false] at hx; rcases hx with rfl | rfl | rfl | rfl <;> rfl) ?_
      refine ih (i + 1) _ _ (by omega) (hF.trans (FS.m _ (by omega))) wd ?_
      intro x hx
      by_cases z : x = i
      · subst z; rw [upd_s]
      · rw [upd_n (by omega)]; exact h1 x (by omega)
theorem TR_19 {f : Nat → Int32} (w : TR ar T) : TR (va_up ar 19 f) T := by
  obtain ⟨n, ep, tx, bg, ba, ad, lc, de, mq, nx, la, en⟩ := T
  obtain ⟨t1, t2, t3, t4⟩ := w
  refine ⟨?_, ?_, ?_, ?_⟩
  · intro k hk
    rw [va_up_ne _ _ (by decide), va_up_ne _ _ (by decide), va_up_ne _ _ (by decide), va_up_ne _ _ (by decide), va_up_ne _ _ (by decide)]
    exact t1 k hk
  · intro i hi
    rw [va_up_ne _ _ (by decide)]
    exact t2 i hi
  · intro t ht
    rw [va_up_ne _ _ (by decide)]
    exact t3 t ht
  · intro i hi
    rw [va_up_ne _ _ (by decide), va_up_ne _ _ (by decide), va_up_ne _ _ (by decide)]
    exact t4 i hi
theorem EA_up {q : Nat} {f : Nat → Int32} (hq : 8 ≤ q) (w : EA P ar X) : EA P (va_up ar q f) X := by
  refine ⟨w.1, w.2.1, fun i hi => ?_⟩
  obtain ⟨a0, a1, a2, a3, a4, a5, a6, a7⟩ := w.2.2 i hi
  refine ⟨?_, ?_, ?_, ?_, ?_, ?_, ?_, ?_⟩
  · rw [va_up_ne _ _ (by omega)]; exact a0
  · rw [va_up_ne _ _ (by omega)]; exact a1
  · rw [va_up_ne _ _ (by omega)]; exact a2
  · rw [va_up_ne _ _ (by omega)]; exact a3
  · rw [va_up_ne _ _ (by omega)]; exact a4
  · rw [va_up_ne _ _ (by omega)]; exact a5
  · rw [va_up_ne _ _ (by omega)]; exact a6
  · intro x hx
    rw [va_up_ne _ _ (by omega)]
    exact a7 x hx
def fetP (L : List En) (r : Option Nat) : List Nat := match r with
  | none => []
  | some o => eP (L.getD o en0)
theorem l_fetch {p m : Nat} {c : Bool} {res : Option Nat} (hp : p < P) (hP : P ≤ 8) (hm : m < 2 ^ 31) (hE : EA P ar X) (hL : LKp X p ar) (hTR : TR ar T) (h18 : ∀ i, i < tp.length → ar 18 i = sg (tp.getD i 0)) (w : MW h (P, cap, tmo, clk, cl, cut, X.length, sy, 0, T.2.2.2.2.2.2.2.2.2.1, T.2.2.2.2.2.2.2.2.2.2.1.length, tp.length, 0) ar) : ∀ (r j : Nat), j + r = X.length → ff (seeS (fl p X) c (stb (fl p X))) (fl p X).length ((fl p X).length - max m (fl p (X.take j)).length) = res →
    gs none (d + 1) mD_X5_fetch (39, [(6, .int (nI j)), (5, .int (nI (fl p (X.take j)).length)), (4, .int (nI (stb (fl p X)))), (0, .ref 96), (1, .int (nI p)), (2, .int (nI m)), (3, .int (b01 c))], [], h) (fun u => u.1 = some (.int (oI res)) ∧ FS cM h u.2 ∧ RE u.2 P cap tmo clk cl cut X sy 0 tE tp (fetP (fl p X) res) T) := by
  have hE0 := hE
  have hsl := stb_le (fl p X)
  have hfle := fl_le p X
  obtain ⟨hl, hok, ha⟩ := hE
  obtain ⟨w0, w1, w2, w3, w4, w5, w6, -⟩ := id w
  simp only [mcell] at w0
  intro r
  induction r with
  | zero =>
    intro j hj hS
    refine gs_n 41 a_X5_fetch_39 rfl ?_
    refine gs_n 42 a_X5_fetch_41 rfl ?_
    refine gs_get 45 a_X5_fetch_42 f_5_106 (by first | assumption | exact hs_same _ _ _ | exact (hs_ne _ _ (by first | assumption | decide | omega)).trans (by first | assumption | exact hs_same _ _ _ | exact (hs_ne _ _ (by first | assumption | decide | omega)).trans (by first | assumption | exact hs_same _ _ _ | exact (hs_ne _ _ (by first | assumption | decide | omega)).trans (by first | assumption | exact hs_same _ _ _ | exact (hs_ne _ _ (by first | assumption | decide | omega)).trans (by first | assumption | exact hs_same _ _ _))))) rfl rfl ?_
    refine gs_ic 143 48 a_X5_fetch_45 rfl rfl (fun cc => ?_) (fun cc => ?_)
    · rw [List.take_of_length_le (show X.length ≤ j by omega), show (fl p X).length - max m (fl p X).length = 0 by have := Nat.le_max_right m (fl p X).length; omega] at hS
      have hS : none = res := hS
      subst hS
      refine gs_k (-1) 144 a_X5_fetch_143 (by decide +kernel) rfl ?_
      refine gs_iret a_X5_fetch_144 rfl rfl ?_
      exact ⟨rfl, FS.rf _ _, RE.mk' (ar := ar) w hE0 (fun z => absurd z (by omega)) hTR h18 (fun i hi => absurd hi (Nat.not_lt_zero i))⟩
    · exact absurd (nI_le (by omega) (by omega)) cc
  | succ r ih =>
    intro j hj hS
    have hjl : j < X.length := by omega
    obtain ⟨g0, g1, g2, g3, g4, g5, g6, g7⟩ := ha j hjl
    have hokj := hok _ (getD_mem hjl)
    refine gs_n 41 a_X5_fetch_39 rfl ?_
    refine gs_n 42 a_X5_fetch_41 rfl ?_
    refine gs_get 45 a_X5_fetch_42 f_5_106 (by first | assumption | exact hs_same _ _ _ | exact (hs_ne _ _ (by first | assumption | decide | omega)).trans (by first | assumption | exact hs_same _ _ _ | exact (hs_ne _ _ (by first | assumption | decide | omega)).trans (by first | assumption | exact hs_same _ _ _ | exact (hs_ne _ _ (by first | assumption | decide | omega)).trans (by first | assumption | exact hs_same _ _ _ | exact (hs_ne _ _ (by first | assumption | decide | omega)).trans (by first | assumption | exact hs_same _ _ _))))) rfl rfl ?_
    refine gs_ic 143 48 a_X5_fetch_45 rfl rfl (fun cc => ?_) (fun cc => ?_)
    · exact absurd cc (nI_ge (by omega) (by omega))
    · refine gs_n 49 a_X5_fetch_48 rfl ?_
      refine gs_get 52 a_X5_fetch_49 f_5_9 (by first | assumption | exact hs_same _ _ _ | exact (hs_ne _ _ (by first | assumption | decide | omega)).trans (by first | assumption | exact hs_same _ _ _ | exact (hs_ne _ _ (by first | assumption | decide | omega)).trans (by first | assumption | exact hs_same _ _ _ | exact (hs_ne _ _ (by first | assumption | decide | omega)).trans (by first | assumption | exact hs_same _ _ _ | exact (hs_ne _ _ (by first | assumption | decide | omega)).trans (by first | assumption | exact hs_same _ _ _))))) rfl rfl ?_
      refine gs_n 54 a_X5_fetch_52 rfl ?_
      refine gs_ia j 55 a_X5_fetch_54 (by first | assumption | exact hs_same _ _ _ | exact (hs_ne _ _ (by first | assumption | decide | omega)).trans (by first | assumption | exact hs_same _ _ _ | exact (hs_ne _ _ (by first | assumption | decide | omega)).trans (by first | assumption | exact hs_same _ _ _ | exact (hs_ne _ _ (by first | assumption | decide | omega)).trans (by first | assumption | exact hs_same _ _ _ | exact (hs_ne _ _ (by first | assumption | decide | omega)).trans (by first | assumption | exact hs_same _ _ _))))) rfl (by omega) (by omega) rfl ?_
      rw [g0]
      refine gs_n 56 a_X5_fetch_55 rfl ?_
      refine gs_ic 62 59 a_X5_fetch_56 rfl rfl (fun c2 => ?_) (fun c2 => ?_)
      · have c2 : nI (eF (X.getD j en0)) = nI p := c2
        rw [nI_eq (by have := hokj.1; omega) (by omega)] at c2
        have ho := fl_lt hjl c2
        have hget := fl_getD hjl c2
        have hfp := fl_tk (p := p) hjl
        rw [if_pos c2] at hfp
        have hlp : (fl p (X.take (j + 1))).length = (fl p (X.take j)).length + 1 := by rw [hfp, List.length_append]; rfl
        have go : ff (seeS (fl p X) c (stb (fl p X))) (fl p X).length ((fl p X).length - max m (fl p (X.take (j + 1))).length) = res → gs none (d + 1) mD_X5_fetch (134, [(6, .int (nI j)), (5, .int (nI (fl p (X.take j)).length)), (4, .int (nI (stb (fl p X)))), (0, .ref 96), (1, .int (nI p)), (2, .int (nI m)), (3, .int (b01 c))], [], h) (fun u => u.1 = some (.int (oI res)) ∧ FS cM h u.2 ∧ RE u.2 P cap tmo clk cl cut X sy 0 tE tp (fetP (fl p X) res) T) := by
          intro hn
          first | refine gs_inc _ 137 a_X5_fetch_134 rfl (Nat.le_of_ble_eq_true rfl) rfl ?_ | refine gs_n 137 a_X5_fetch_134 rfl ?_
          first | refine gs_inc _ 140 a_X5_fetch_137 rfl (Nat.le_of_ble_eq_true rfl) rfl ?_ | refine gs_n 140 a_X5_fetch_137 rfl ?_
          refine gs_n 39 a_X5_fetch_140 rfl ?_
          refine gs_w [(6, .int (nI (j + 1))), (5, .int (nI ((fl p (X.take j)).length + 1))), (4, .int (nI (stb (fl p X)))), (0, .ref 96), (1, .int (nI p)), (2, .int (nI m)), (3, .int (b01 c))] (by simp [ix_nd]) (by intro x hx; simp only [List.mem_cons, List.not_mem_nil, or_false] at hx; rcases hx with rfl | rfl | rfl | rfl | rfl | rfl | rfl <;> rfl) ?_
          rw [← hlp]
          exact ih (j + 1) (by omega) hn
        refine gs_n 64 a_X5_fetch_62 rfl ?_
        refine gs_n 65 a_X5_fetch_64 rfl ?_
        refine gs_ic 134 68 a_X5_fetch_65 rfl rfl (fun c65 => ?_) (fun c65 => ?_)
        · have c65 : nI (fl p (X.take j)).length < nI m := c65
          rw [nI_ltI (by omega) (by omega)] at c65
          refine go ?_
          rw [hlp, Nat.max_eq_left (by omega)]
          rw [Nat.max_eq_left (by omega)] at hS
          exact hS
        · have c65 : ¬ nI (fl p (X.take j)).length < nI m := c65
          rw [nI_ltI (by omega) (by omega)] at c65
          rw [Nat.max_eq_right (by omega), ff_st ho] at hS
          refine gs_n 69 a_X5_fetch_68 rfl ?_
          refine gs_n 71 a_X5_fetch_69 rfl ?_
          refine gs_n 72 a_X5_fetch_71 rfl ?_
          refine gs_n 74 a_X5_fetch_72 rfl ?_
          refine gs_n 76 a_X5_fetch_74 rfl ?_
          refine gs_cv 79 a_X5_fetch_76 k_5_195 q_X5_isSeen (m_isSeen (s := stb (fl p X)) c (by omega) hjl c2 hE0 hL w) rfl rfl rfl (by simp [Value.category]) (by first | assumption | exact hs_same _ _ _ | exact (hs_ne _ _ (by first | assumption | decide | omega)).trans (by first | assumption | exact hs_same _ _ _ | exact (hs_ne _ _ (by first | assumption | decide | omega)).trans (by first | assumption | exact hs_same _ _ _ | exact (hs_ne _ _ (by first | assumption | decide | omega)).trans (by first | assumption | exact hs_same _ _ _ | exact (hs_ne _ _ (by first | assumption | decide | omega)).trans (by first | assumption | exact hs_same _ _ _))))) rfl (fun v h1 hp => ?_)
          cases hp
          refine gs_if 134 82 a_X5_fetch_79 rfl rfl (fun c79 => ?_) (fun c79 => ?_)
          · have c79 := (b01_0 _).mp c79
            rw [c79, if_neg (by simp)] at hS
            refine go ?_
            rw [hlp, Nat.max_eq_right (by omega)]
            exact hS
          · have c79 := (b01_ne _).mp c79
            rw [c79, if_pos rfl] at hS
            subst hS
            obtain ⟨hb1, hb2, -⟩ := hokj.2.2.2.2.2.2.2.1 (by omega)
            rw [hb1] at g5
            have wd := w.obj (P, cap, tmo, clk, cl, cut, X.length, sy, 0, T.2.2.2.2.2.2.2.2.2.1, T.2.2.2.2.2.2.2.2.2.2.1.length, tp.length, (eP (X.getD j en0)).length)
            refine gs_n 83 a_X5_fetch_82 rfl ?_
            refine gs_n 84 a_X5_fetch_83 rfl ?_
            refine gs_get 87 a_X5_fetch_84 f_5_25 (by first | assumption | exact hs_same _ _ _ | exact (hs_ne _ _ (by first | assumption | decide | omega)).trans (by first | assumption | exact hs_same _ _ _ | exact (hs_ne _ _ (by first | assumption | decide | omega)).trans (by first | assumption | exact hs_same _ _ _ | exact (hs_ne _ _ (by first | assumption | decide | omega)).trans (by first | assumption | exact hs_same _ _ _ | exact (hs_ne _ _ (by first | assumption | decide | omega)).trans (by first | assumption | exact hs_same _ _ _))))) rfl rfl ?_
            refine gs_n 89 a_X5_fetch_87 rfl ?_
            refine gs_ia j 90 a_X5_fetch_89 (by first | assumption | exact hs_same _ _ _ | exact (hs_ne _ _ (by first | assumption | decide | omega)).trans (by first | assumption | exact hs_same _ _ _ | exact (hs_ne _ _ (by first | assumption | decide | omega)).trans (by first | assumption | exact hs_same _ _ _ | exact (hs_ne _ _ (by first | assumption | decide | omega)).trans (by first | assumption | exact hs_same _ _ _ | exact (hs_ne _ _ (by first | assumption | decide | omega)).trans (by first | assumption | exact hs_same _ _ _))))) rfl (by omega) (by omega) rfl ?_
            rw [g5]
            refine gs_put 93 _ a_X5_fetch_90 f_5_115 (by first | assumption | exact hs_same _ _ _ | exact (hs_ne _ _ (by first | assumption | decide | omega)).trans (by first | assumption | exact hs_same _ _ _ | exact (hs_ne _ _ (by first | assumption | decide | omega)).trans (by first | assumption | exact hs_same _ _ _ | exact (hs_ne _ _ (by first | assumption | decide | omega)).trans (by first | assumption | exact hs_same _ _ _ | exact (hs_ne _ _ (by first | assumption | decide | omega)).trans (by first | assumption | exact hs_same _ _ _))))) (Nat.le_of_ble_eq_true rfl) rfl (fun z => absurd z (by decide)) rfl rfl ?_
            refine gs_k (nI 0) 94 a_X5_fetch_93 (by decide +kernel) rfl ?_
            refine gs_n 96 a_X5_fetch_94 rfl ?_
            refine gs_w [(7, .int (nI 0)), (5, .int (nI (fl p (X.take j)).length)), (6, .int (nI j)), (0, .ref 96)] (by simp [ix_nd]) (by intro x hx; simp only [List.mem_cons, List.not_mem_nil, or_false] at hx; rcases hx with rfl | rfl | rfl | rfl <;> rfl) ?_
            have wid : va_up ar 19 (ar 19) = ar := by
              funext q
              by_cases z : q = 19
              · subst z; rw [va_up_self]
              · rw [va_up_ne _ _ z]
            rw [← wid] at wd
            have hcp := fun kk => l_fcopy (d := d + 1) (h0 := h) (Q := fun u => u.1 = some (.int (oI (some (fl p (X.take j)).length))) ∧ FS cM h u.2 ∧ RE u.2 P cap tmo clk cl cut X sy 0 tE tp (fetP (fl p X) (some (fl p (X.take j)).length)) T) (n := nI (fl p (X.take j)).length) (pl := eP (X.getD j en0)) (show j < 4200 by omega) (by omega) ar g7 kk (eP (X.getD j en0)).length 0 _ (ar 19) (by omega) (FS.m _ (by omega)) wd (fun x hx => absurd hx (by omega))
            refine hcp ?_
            intro h2 g hF2 w2 hg2
            refine gs_n 133 a_X5_fetch_131 rfl ?_
            refine gs_iret a_X5_fetch_133 rfl rfl ?_
            refine ⟨rfl, hF2, ?_⟩
            show RE h2 P cap tmo clk cl cut X sy 0 tE tp (eP ((fl p X).getD (fl p (X.take j)).length en0)) T
            rw [hget]
            refine RE.mk' (ar := va_up ar 19 g) w2 (EA_up (by omega) hE0) (fun z => absurd z (by omega)) (TR_19 hTR) ?_ ?_
            · intro i hi
              rw [va_up_ne _ _ (by decide)]
              exact h18 i hi
            · intro i hi
              rw [va_up_self]
              exact hg2 i hi
      · have c2 : ¬ nI (eF (X.getD j en0)) = nI p := c2
        rw [nI_eq (by have := hokj.1; omega) (by omega)] at c2
        have hfp := fl_tk (p := p) hjl
        rw [if_neg c2] at hfp
        refine gs_n 137 a_X5_fetch_59 rfl ?_
        first | refine gs_inc _ 140 a_X5_fetch_137 rfl (Nat.le_of_ble_eq_true rfl) rfl ?_ | refine gs_n 140 a_X5_fetch_137 rfl ?_
        refine gs_n 39 a_X5_fetch_140 rfl ?_
        refine gs_w [(6, .int (nI (j + 1))), (5, .int (nI (fl p (X.take j)).length)), (4, .int (nI (stb (fl p X)))), (0, .ref 96), (1, .int (nI p)), (2, .int (nI m)), (3, .int (b01 c))] (by simp [ix_nd]) (by intro x hx; simp only [List.mem_cons, List.not_mem_nil, or_false] at hx; rcases hx with rfl | rfl | rfl | rfl | rfl | rfl | rfl <;> rfl) ?_
        rw [← hfp]
        exact ih (j + 1) (by omega) (by rw [hfp]; exact hS)
theorem F_fet1 {p fr : Int32} {c : Bool} (hc : (cl || !isPn P p || decide (fr.toInt < 0)) = true) : F_fetch (P, cap, tmo, clk, cl, cut, X, sy, torn, tE, tp, an) p fr c = (-1, (P, cap, tmo, clk, cl, cut, X, sy, torn, tE, tp, [])) := by
  simp only [F_fetch]
  rw [if_pos hc]
theorem F_fet2 {p fr : Int32} {c : Bool} (hc : (cl || !isPn P p || decide (fr.toInt < 0)) = false) : F_fetch (P, cap, tmo, clk, cl, cut, X, sy, torn, tE, tp, an) p fr c = (oI (offF (fl (kn p) X) (kn fr) c), (P, cap, tmo, clk, cl, cut, X, sy, torn, tE, tp, fetP (fl (kn p) X) (offF (fl (kn p) X) (kn fr) c))) := by
  simp only [F_fetch]
  rw [if_neg (by rw [hc]; simp)]
  rfl
theorem r_fetch (p fr : Int32) (c : Bool) (hs : SI (P, cap, tmo, clk, cl, cut, X, sy, torn, tE, tp, an)) (w : RS h (P, cap, tmo, clk, cl, cut, X, sy, torn, tE, tp, an)) : ev (d + 2) n_X5_fetch [.ref 96, .int p, .int fr, .int (b01 c)] h (fun u => u.1 = some (.int (F_fetch (P, cap, tmo, clk, cl, cut, X, sy, torn, tE, tp, an) p fr c).1) ∧ FS cM h u.2 ∧ RS u.2 (F_fetch (P, cap, tmo, clk, cl, cut, X, sy, torn, tE, tp, an) p fr c).2) := by
  obtain ⟨s1, s2, s3, s4, s5, s6, s7, s8, s9, hv, s11, s12, s13, s14, s15, s16, s17, s18⟩ := hs
  have w' : RE h P cap tmo clk cl cut X sy torn tE tp an (tS cl P X) := w
  obtain ⟨ar, wm, hE, hto, hTR, h18, h19⟩ := w'.un
  have main : ∀ h2, FS cM h h2 → MW h2 (P, cap, tmo, clk, cl, cut, X.length, sy, torn, (tS cl P X).2.2.2.2.2.2.2.2.2.1, (tS cl P X).2.2.2.2.2.2.2.2.2.2.1.length, tp.length, 0) ar → gs none (d + 1) mD_X5_fetch (5, [(0, .ref 96), (1, .int p), (2, .int fr), (3, .int (b01 c))], [], h2) (fun u => u.1 = some (.int (F_fetch (P, cap, tmo, clk, cl, cut, X, sy, torn, tE, tp, an) p fr c).1) ∧ FS cM h u.2 ∧ RS u.2 (F_fetch (P, cap, tmo, clk, cl, cut, X, sy, torn, tE, tp, an) p fr c).2) := by
    intro h2 hF w2
    have wE : RE h2 P cap tmo clk cl cut X sy torn tE tp [] (tS cl P X) := RE.mk' (ar := ar) w2 hE hto hTR h18 (fun i hi => absurd hi (Nat.not_lt_zero i))
    have v0 := w2.1
    simp only [mcell] at v0
    refine gs_n 6 a_X5_fetch_5 rfl ?_
    refine gs_get 9 a_X5_fetch_6 f_5_99 (by first | assumption | exact hs_same _ _ _ | exact (hs_ne _ _ (by first | assumption | decide | omega)).trans (by first | assumption | exact hs_same _ _ _ | exact (hs_ne _ _ (by first | assumption | decide | omega)).trans (by first | assumption | exact hs_same _ _ _ | exact (hs_ne _ _ (by first | assumption | decide | omega)).trans (by first | assumption | exact hs_same _ _ _ | exact (hs_ne _ _ (by first | assumption | decide | omega)).trans (by first | assumption | exact hs_same _ _ _))))) rfl rfl ?_
    refine gs_if 24 12 a_X5_fetch_9 rfl rfl (fun c9 => ?_) (fun c9 => ?_)
    · have c9 := (b01_ne _).mp c9
      refine gs_k (-1) 25 a_X5_fetch_24 (by decide +kernel) rfl ?_
      refine gs_iret a_X5_fetch_25 rfl rfl ?_
      rw [F_fet1 (by rw [c9]; rfl)]
      exact ⟨rfl, hF, wE⟩
    · have c9 : cl = false := (b01_0 _).mp (Classical.byContradiction c9)
      subst c9
      obtain ⟨rfl, hnd⟩ := s11 rfl
      refine gs_n 13 a_X5_fetch_12 rfl ?_
      refine gs_n 14 a_X5_fetch_13 rfl ?_
      refine gs_cv 17 a_X5_fetch_14 k_5_185 q_X5_isPartition (r_isPart p s2 wE) rfl rfl rfl (by simp [Value.category]) (by first | assumption | exact hs_same _ _ _ | exact (hs_ne _ _ (by first | assumption | decide | omega)).trans (by first | assumption | exact hs_same _ _ _ | exact (hs_ne _ _ (by first | assumption | decide | omega)).trans (by first | assumption | exact hs_same _ _ _ | exact (hs_ne _ _ (by first | assumption | decide | omega)).trans (by first | assumption | exact hs_same _ _ _ | exact (hs_ne _ _ (by first | assumption | decide | omega)).trans (by first | assumption | exact hs_same _ _ _))))) rfl (fun v h1 hp => ?_)
      cases hp
      refine gs_if 24 20 a_X5_fetch_17 rfl rfl (fun c17 => ?_) (fun c17 => ?_)
      · have c17 := (b01_0 _).mp c17
        refine gs_k (-1) 25 a_X5_fetch_24 (by decide +kernel) rfl ?_
        refine gs_iret a_X5_fetch_25 rfl rfl ?_
        rw [F_fet1 (by rw [c17]; rfl)]
        exact ⟨rfl, hF, wE⟩
      · have c17 := (b01_ne _).mp c17
        refine gs_n 21 a_X5_fetch_20 rfl ?_
        refine gs_if 26 24 a_X5_fetch_21 rfl rfl (fun c21 => ?_) (fun c21 => ?_)
        · have c21 : 0 ≤ fr := c21
          rw [le0_iff] at c21
          rw [F_fet2 (by rw [c17, decide_eq_false (by omega)]; rfl)]
          obtain ⟨hp, hpx⟩ := isPn_kn c17
          have hfx : fr = nI (kn fr) := nI_ofInt c21
          have hmb : kn fr < 2 ^ 31 := by have := Int32.toInt_lt fr; unfold kn; omega
          generalize hkp : kn p = pp at *
          generalize hkf : kn fr = m at *
          subst hpx
          subst hfx
          have hL := LK_of hv hnd hE hTR hp
          refine gs_n 27 a_X5_fetch_26 rfl ?_
          refine gs_n 28 a_X5_fetch_27 rfl ?_
          refine gs_cv 31 a_X5_fetch_28 k_5_192 q_X5_stable (m_stable (show pp ≤ 8 by omega) hE hL w2) rfl rfl rfl (by simp [Value.category]) (by first | assumption | exact hs_same _ _ _ | exact (hs_ne _ _ (by first | assumption | decide | omega)).trans (by first | assumption | exact hs_same _ _ _ | exact (hs_ne _ _ (by first | assumption | decide | omega)).trans (by first | assumption | exact hs_same _ _ _ | exact (hs_ne _ _ (by first | assumption | decide | omega)).trans (by first | assumption | exact hs_same _ _ _ | exact (hs_ne _ _ (by first | assumption | decide | omega)).trans (by first | assumption | exact hs_same _ _ _))))) rfl (fun v h1 hp => ?_)
          cases hp
          refine gs_n 33 a_X5_fetch_31 rfl ?_
          refine gs_k (nI 0) 34 a_X5_fetch_33 (by decide +kernel) rfl ?_
          refine gs_n 36 a_X5_fetch_34 rfl ?_
          refine gs_k (nI 0) 37 a_X5_fetch_36 (by decide +kernel) rfl ?_
          refine gs_n 39 a_X5_fetch_37 rfl ?_
          refine gs_w [(6, .int (nI 0)), (5, .int (nI (fl pp (X.take 0)).length)), (4, .int (nI (stb (fl pp X)))), (0, .ref 96), (1, .int (nI pp)), (2, .int (nI m)), (3, .int (b01 c))] (by simp [ix_nd]) (by intro x hx; simp only [List.mem_cons, List.not_mem_nil, or_false] at hx; rcases hx with rfl | rfl | rfl | rfl | rfl | rfl | rfl <;> rfl) ?_
          refine gs_post (l_fetch (T := told P X) (tE := tE) (res := offF (fl pp X) m c) hp s2 hmb hE hL hTR h18 w2 X.length 0 (by omega) (by rw [show max m (fl pp (X.take 0)).length = m from Nat.max_eq_left (Nat.zero_le _)]; exact off_see _ _ _)) ?_
          rintro u ⟨e1, hF3, w3⟩
          exact ⟨e1, hF.trans hF3, w3⟩
        · have c21 : ¬ 0 ≤ fr := c21
          rw [le0_iff] at c21
          refine gs_k (-1) 25 a_X5_fetch_24 (by decide +kernel) rfl ?_
          refine gs_iret a_X5_fetch_25 rfl rfl ?_
          rw [F_fet1 (by rw [decide_eq_true (show fr.toInt < 0 by omega)]; simp)]
          exact ⟨rfl, hF, wE⟩
  have wd := wm.obj (P, cap, tmo, clk, cl, cut, X.length, sy, torn, (tS cl P X).2.2.2.2.2.2.2.2.2.1, (tS cl P X).2.2.2.2.2.2.2.2.2.2.1.length, tp.length, 0)
  have w0 := wm.1
  simp only [mcell] at w0
  refine ev_of q_X5_fetch (Nat.le_of_ble_eq_true rfl) ?_
  refine gs_n 1 a_X5_fetch_0 rfl ?_
  refine gs_k (nI 0) 2 a_X5_fetch_1 (by decide +kernel) rfl ?_
  refine gs_put 5 _ a_X5_fetch_2 f_5_115 (by first | assumption | exact hs_same _ _ _ | exact (hs_ne _ _ (by first | assumption | decide | omega)).trans (by first | assumption | exact hs_same _ _ _ | exact (hs_ne _ _ (by first | assumption | decide | omega)).trans (by first | assumption | exact hs_same _ _ _ | exact (hs_ne _ _ (by first | assumption | decide | omega)).trans (by first | assumption | exact hs_same _ _ _ | exact (hs_ne _ _ (by first | assumption | decide | omega)).trans (by first | assumption | exact hs_same _ _ _))))) (Nat.le_of_ble_eq_true rfl) rfl (fun z => absurd z (by decide)) rfl rfl ?_
  refine gs_w [(0, .ref 96), (1, .int p), (2, .int fr), (3, .int (b01 c))] (by simp [ix_nd]) (by intro x hx; simp only [List.mem_cons, List.not_mem_nil, or_false] at hx; rcases hx with rfl | rfl | rfl | rfl <;> rfl) ?_
  exact main _ (FS.m _ (by omega)) wd
theorem bytesF_len (hX : ∀ e ∈ X, okE P e) (ht : 0 < torn → okE P tE ∧ torn < sz P tE) {f : Nat} (hf : f ≤ P) : (bytesF P torn tE X f).length = sumOn (szF P f) X + (if 0 < torn ∧ eF tE = f then torn else 0) := by
  unfold bytesF
  by_cases z : f < P
  · rw [if_pos z, List.length_append, ← bytesP_sum z hX]
    unfold tnO bytesP
    by_cases y : eF tE = f
    · rw [if_pos ⟨z, y⟩, List.length_take]
      by_cases q : 0 < torn
      · rw [if_pos ⟨q, y⟩]
        obtain ⟨t1, t2⟩ := ht q
        unfold sz at t2
        rw [if_neg (by omega)] at t2
        rw [encP_len (t1.2.2.2 (by omega))]
        omega
      · rw [if_neg (fun r => q r.1)]
        omega
    · rw [if_neg (fun r => y r.2), if_neg (fun r => y r.2)]
      rfl
  · obtain rfl : f = P := by omega
    rw [if_neg z, List.length_append, flatB_len, ← bytesB_sum]
    unfold btO
    by_cases y : eF tE = f
    · rw [if_pos y, List.length_take, encB_len]
      by_cases q : 0 < torn
      · rw [if_pos ⟨q, y⟩]
        obtain ⟨t1, t2⟩ := ht q
        unfold sz at t2
        rw [if_pos y] at t2
        omega
      · rw [if_neg (fun r => q r.1)]
        omega
    · rw [if_neg y, if_neg (fun r => y r.2)]
      rfl
theorem r_bytesOf {f : Nat} (hf : f ≤ P) (hP : P ≤ 8) (hlen : X.length < 4200) (hX : ∀ e ∈ X, okE P e) (htb : torn < 2 ^ 30) (ht : 0 < torn → okE P tE ∧ torn < sz P tE) (w : RE h P cap tmo clk cl cut X sy torn tE tp an T) : ev (d + 3) n_X5_bytesOf [.ref 96, .int (nI f)] h (fun u => u = (some (.int (nI (bytesF P torn tE X f).length)), h)) := by
  rw [bytesF_len hX ht hf]
  obtain ⟨ar, wm, hE, hto, -⟩ := w.un
  obtain ⟨w0, w1, -⟩ := id wm
  simp only [mcell] at w0
  have fin : ∀ t, t = (if 0 < torn ∧ eF tE = f then torn else 0) → gs none (d + 2) mD_X5_bytesOf (34, [(0, .ref 96), (1, .int (nI f))], [.int (nI t), .int (nI (sumOn (szF P f) X))], h) (fun u => u = (some (.int (nI (sumOn (szF P f) X + (if 0 < torn ∧ eF tE = f then torn else 0)))), h)) := by
    intro t ht
    refine gs_n 35 a_X5_bytesOf_34 rfl ?_
    rw [nI_add, ht]
    refine gs_iret a_X5_bytesOf_35 rfl rfl ?_
    rfl
  refine ev_of q_X5_bytesOf (Nat.le_of_ble_eq_true rfl) ?_
  refine gs_n 1 a_X5_bytesOf_0 rfl ?_
  refine gs_n 2 a_X5_bytesOf_1 rfl ?_
  refine gs_k (nI 0) 3 a_X5_bytesOf_2 (by decide +kernel) rfl ?_
  refine gs_cv 6 a_X5_bytesOf_3 k_5_125 q_X5_bytesFrom (r_bytesFrom f 0 (by omega) (Nat.zero_le _) hP w) rfl rfl rfl (by simp [Value.category]) (by first | assumption | exact hs_same _ _ _ | exact (hs_ne _ _ (by first | assumption | decide | omega)).trans (by first | assumption | exact hs_same _ _ _ | exact (hs_ne _ _ (by first | assumption | decide | omega)).trans (by first | assumption | exact hs_same _ _ _ | exact (hs_ne _ _ (by first | assumption | decide | omega)).trans (by first | assumption | exact hs_same _ _ _ | exact (hs_ne _ _ (by first | assumption | decide | omega)).trans (by first | assumption | exact hs_same _ _ _))))) rfl (fun v h1 hp => ?_)
  cases hp
  rw [List.drop_zero]
  refine gs_n 7 a_X5_bytesOf_6 rfl ?_
  refine gs_get 10 a_X5_bytesOf_7 f_5_112 (by first | assumption | exact hs_same _ _ _ | exact (hs_ne _ _ (by first | assumption | decide | omega)).trans (by first | assumption | exact hs_same _ _ _ | exact (hs_ne _ _ (by first | assumption | decide | omega)).trans (by first | assumption | exact hs_same _ _ _ | exact (hs_ne _ _ (by first | assumption | decide | omega)).trans (by first | assumption | exact hs_same _ _ _ | exact (hs_ne _ _ (by first | assumption | decide | omega)).trans (by first | assumption | exact hs_same _ _ _))))) rfl rfl ?_
  refine gs_if 33 13 a_X5_bytesOf_10 rfl rfl (fun c10 => ?_) (fun c10 => ?_)
  · have c10 : nI torn ≤ nI 0 := c10
    rw [nI_leI (by omega) (by omega)] at c10
    refine gs_k (nI 0) 34 a_X5_bytesOf_33 (by decide +kernel) rfl ?_
    exact fin 0 (by rw [if_neg (by omega)])
  · have c10 : ¬ nI torn ≤ nI 0 := c10
    rw [nI_leI (by omega) (by omega)] at c10
    have q0 : 0 < torn := by omega
    have hA := (hto q0).1
    have hok := (ht q0).1.2.1
    refine gs_n 14 a_X5_bytesOf_13 rfl ?_
    refine gs_get 17 a_X5_bytesOf_14 f_5_9 (by first | assumption | exact hs_same _ _ _ | exact (hs_ne _ _ (by first | assumption | decide | omega)).trans (by first | assumption | exact hs_same _ _ _ | exact (hs_ne _ _ (by first | assumption | decide | omega)).trans (by first | assumption | exact hs_same _ _ _ | exact (hs_ne _ _ (by first | assumption | decide | omega)).trans (by first | assumption | exact hs_same _ _ _ | exact (hs_ne _ _ (by first | assumption | decide | omega)).trans (by first | assumption | exact hs_same _ _ _))))) rfl rfl ?_
    refine gs_n 18 a_X5_bytesOf_17 rfl ?_
    refine gs_get 21 a_X5_bytesOf_18 f_5_106 (by first | assumption | exact hs_same _ _ _ | exact (hs_ne _ _ (by first | assumption | decide | omega)).trans (by first | assumption | exact hs_same _ _ _ | exact (hs_ne _ _ (by first | assumption | decide | omega)).trans (by first | assumption | exact hs_same _ _ _ | exact (hs_ne _ _ (by first | assumption | decide | omega)).trans (by first | assumption | exact hs_same _ _ _ | exact (hs_ne _ _ (by first | assumption | decide | omega)).trans (by first | assumption | exact hs_same _ _ _))))) rfl rfl ?_
    refine gs_ia X.length 22 a_X5_bytesOf_21 (by first | assumption | exact hs_same _ _ _ | exact (hs_ne _ _ (by first | assumption | decide | omega)).trans (by first | assumption | exact hs_same _ _ _ | exact (hs_ne _ _ (by first | assumption | decide | omega)).trans (by first | assumption | exact hs_same _ _ _ | exact (hs_ne _ _ (by first | assumption | decide | omega)).trans (by first | assumption | exact hs_same _ _ _ | exact (hs_ne _ _ (by first | assumption | decide | omega)).trans (by first | assumption | exact hs_same _ _ _))))) rfl (by omega) (by omega) rfl ?_
    rw [hA]
    refine gs_n 23 a_X5_bytesOf_22 rfl ?_
    refine gs_ic 33 26 a_X5_bytesOf_23 rfl rfl (fun c23 => ?_) (fun c23 => ?_)
    · have c23 : ¬ nI (eF tE) = nI f := c23
      rw [nI_eq (by omega) (by omega)] at c23
      refine gs_k (nI 0) 34 a_X5_bytesOf_33 (by decide +kernel) rfl ?_
      exact fin 0 (by rw [if_neg (fun q => c23 q.2)])
    · have c23 : nI (eF tE) = nI f := Classical.byContradiction c23
      rw [nI_eq (by omega) (by omega)] at c23
      refine gs_n 27 a_X5_bytesOf_26 rfl ?_
      refine gs_get 30 a_X5_bytesOf_27 f_5_112 (by first | assumption | exact hs_same _ _ _ | exact (hs_ne _ _ (by first | assumption | decide | omega)).trans (by first | assumption | exact hs_same _ _ _ | exact (hs_ne _ _ (by first | assumption | decide | omega)).trans (by first | assumption | exact hs_same _ _ _ | exact (hs_ne _ _ (by first | assumption | decide | omega)).trans (by first | assumption | exact hs_same _ _ _ | exact (hs_ne _ _ (by first | assumption | decide | omega)).trans (by first | assumption | exact hs_same _ _ _))))) rfl rfl ?_
      refine gs_n 34 a_X5_bytesOf_30 rfl ?_
      exact fin torn (by rw [if_pos ⟨q0, c23⟩])
theorem SI.okX (hs : SI (P, cap, tmo, clk, cl, cut, X, sy, torn, tE, tp, an)) : (∀ e ∈ X, okE P e) ∧ X.length < 4200 ∧ torn < 2 ^ 30 := by
  obtain ⟨s1, s2, s3, s4, s5, s6, s7, s8, s9, hv, s11, s12, -⟩ := hs
  obtain ⟨n, ep, tx, bg, ba, ad, lc, de, mq, nx, la, en, hT⟩ := told_ex P X
  have hg : GT P cap X (n, ep, tx, bg, ba, ad, lc, de, mq, nx, la, en) := hT ▸ pv_all hv
  refine ⟨hg.1.2.2.2.1, by have := len42 s2 s4 hv; omega, ?_⟩
  by_cases q : 0 < torn
  · have := s12 q
    have := sz_le this.1.1
    omega
  · omega
theorem r_partition (p what : Int32) (hs : SI (P, cap, tmo, clk, cl, cut, X, sy, torn, tE, tp, an)) (w : RS h (P, cap, tmo, clk, cl, cut, X, sy, torn, tE, tp, an)) : ev (d + 4) n_X5_partition [.ref 96, .int p, .int what] h (fun u => u = (some (.int (F_partition (P, cap, tmo, clk, cl, cut, X, sy, torn, tE, tp, an) p what)), h)) := by
  have hsX := hs.okX
  obtain ⟨s1, s2, s3, s4, s5, s6, s7, s8, s9, hv, s11, s12, -⟩ := hs
  have w' : RE h P cap tmo clk cl cut X sy torn tE tp an (tS cl P X) := w
  obtain ⟨ar, wm, hE, hto, hTR, h18, h19⟩ := w'.un
  have w0 := wm.1
  simp only [mcell] at w0
  simp only [F_partition]
  refine ev_of q_X5_partition (Nat.le_of_ble_eq_true rfl) ?_
  refine gs_n 1 a_X5_partition_0 rfl ?_
  refine gs_n 2 a_X5_partition_1 rfl ?_
  refine gs_cv 5 a_X5_partition_2 k_5_185 q_X5_isPartition (r_isPart p s2 w') rfl rfl rfl (by simp [Value.category]) (by first | assumption | exact hs_same _ _ _ | exact (hs_ne _ _ (by first | assumption | decide | omega)).trans (by first | assumption | exact hs_same _ _ _ | exact (hs_ne _ _ (by first | assumption | decide | omega)).trans (by first | assumption | exact hs_same _ _ _ | exact (hs_ne _ _ (by first | assumption | decide | omega)).trans (by first | assumption | exact hs_same _ _ _ | exact (hs_ne _ _ (by first | assumption | decide | omega)).trans (by first | assumption | exact hs_same _ _ _))))) rfl (fun v h1 hp => ?_)
  cases hp
  refine gs_if 10 8 a_X5_partition_5 rfl rfl (fun c5 => ?_) (fun c5 => ?_)
  · have c5 := (b01_ne _).mp c5
    rw [if_neg (by rw [c5]; simp)]
    obtain ⟨hp, hpx⟩ := isPn_kn c5
    generalize hkp : kn p = pp at *
    subst hpx
    refine gs_n 11 a_X5_partition_10 rfl ?_
    rcases sw_cases what 6 with ⟨i, hi, rfl⟩ | hd
    · rw [swi_n (by exact hi) (by simp)]
      rcases (by omega : i = 0 ∨ i = 1 ∨ i = 2 ∨ i = 3 ∨ i = 4 ∨ i = 5) with z | z | z | z | z | z <;> subst z
      · refine gs_n 48 a_X5_partition_11 rfl ?_
        refine gs_n 49 a_X5_partition_48 rfl ?_
        refine gs_n 50 a_X5_partition_49 rfl ?_
        refine gs_cv 53 a_X5_partition_50 k_5_205 q_X5_manyOf (m_manyOf (show pp ≤ 8 by omega) hE wm) rfl rfl rfl (by simp [Value.category]) (by first | assumption | exact hs_same _ _ _ | exact (hs_ne _ _ (by first | assumption | decide | omega)).trans (by first | assumption | exact hs_same _ _ _ | exact (hs_ne _ _ (by first | assumption | decide | omega)).trans (by first | assumption | exact hs_same _ _ _ | exact (hs_ne _ _ (by first | assumption | decide | omega)).trans (by first | assumption | exact hs_same _ _ _ | exact (hs_ne _ _ (by first | assumption | decide | omega)).trans (by first | assumption | exact hs_same _ _ _))))) rfl (fun v h1 hp => ?_)
        cases hp
        refine gs_iret a_X5_partition_53 rfl rfl ?_
        rfl
      · refine gs_n 54 a_X5_partition_11 rfl ?_
        refine gs_n 55 a_X5_partition_54 rfl ?_
        refine gs_get 58 a_X5_partition_55 f_5_99 (by first | assumption | exact hs_same _ _ _ | exact (hs_ne _ _ (by first | assumption | decide | omega)).trans (by first | assumption | exact hs_same _ _ _ | exact (hs_ne _ _ (by first | assumption | decide | omega)).trans (by first | assumption | exact hs_same _ _ _ | exact (hs_ne _ _ (by first | assumption | decide | omega)).trans (by first | assumption | exact hs_same _ _ _ | exact (hs_ne _ _ (by first | assumption | decide | omega)).trans (by first | assumption | exact hs_same _ _ _))))) rfl rfl ?_
        refine gs_if 65 61 a_X5_partition_58 rfl rfl (fun c => ?_) (fun c => ?_)
        · have c := (b01_0 _).mp c
          subst c
          obtain ⟨rfl, hnd⟩ := s11 rfl
          refine gs_n 66 a_X5_partition_65 rfl ?_
          refine gs_n 67 a_X5_partition_66 rfl ?_
          refine gs_cv 70 a_X5_partition_67 k_5_192 q_X5_stable (m_stable (show pp ≤ 8 by omega) hE (LK_of hv hnd hE hTR hp) wm) rfl rfl rfl (by simp [Value.category]) (by first | assumption | exact hs_same _ _ _ | exact (hs_ne _ _ (by first | assumption | decide | omega)).trans (by first | assumption | exact hs_same _ _ _ | exact (hs_ne _ _ (by first | assumption | decide | omega)).trans (by first | assumption | exact hs_same _ _ _ | exact (hs_ne _ _ (by first | assumption | decide | omega)).trans (by first | assumption | exact hs_same _ _ _ | exact (hs_ne _ _ (by first | assumption | decide | omega)).trans (by first | assumption | exact hs_same _ _ _))))) rfl (fun v h1 hp => ?_)
          cases hp
          refine gs_iret a_X5_partition_70 rfl rfl ?_
          rfl
        · have c := (b01_ne _).mp c
          subst c
          refine gs_k (-1) 62 a_X5_partition_61 (by decide +kernel) rfl ?_
          refine gs_n 70 a_X5_partition_62 rfl ?_
          refine gs_iret a_X5_partition_70 rfl rfl ?_
          rfl
      · refine gs_n 71 a_X5_partition_11 rfl ?_
        refine gs_n 72 a_X5_partition_71 rfl ?_
        refine gs_n 73 a_X5_partition_72 rfl ?_
        refine gs_cv 76 a_X5_partition_73 k_5_208 q_X5_bytesOf (r_bytesOf (show pp ≤ P by omega) s2 hsX.2.1 hsX.1 hsX.2.2 s12 w') rfl rfl rfl (by simp [Value.category]) (by first | assumption | exact hs_same _ _ _ | exact (hs_ne _ _ (by first | assumption | decide | omega)).trans (by first | assumption | exact hs_same _ _ _ | exact (hs_ne _ _ (by first | assumption | decide | omega)).trans (by first | assumption | exact hs_same _ _ _ | exact (hs_ne _ _ (by first | assumption | decide | omega)).trans (by first | assumption | exact hs_same _ _ _ | exact (hs_ne _ _ (by first | assumption | decide | omega)).trans (by first | assumption | exact hs_same _ _ _))))) rfl (fun v h1 hp => ?_)
        cases hp
        refine gs_iret a_X5_partition_76 rfl rfl ?_
        rfl
      · refine gs_n 77 a_X5_partition_11 rfl ?_
        refine gs_n 78 a_X5_partition_77 rfl ?_
        refine gs_n 79 a_X5_partition_78 rfl ?_
        refine gs_n 80 a_X5_partition_79 rfl ?_
        refine gs_get 83 a_X5_partition_80 f_5_109 (by first | assumption | exact hs_same _ _ _ | exact (hs_ne _ _ (by first | assumption | decide | omega)).trans (by first | assumption | exact hs_same _ _ _ | exact (hs_ne _ _ (by first | assumption | decide | omega)).trans (by first | assumption | exact hs_same _ _ _ | exact (hs_ne _ _ (by first | assumption | decide | omega)).trans (by first | assumption | exact hs_same _ _ _ | exact (hs_ne _ _ (by first | assumption | decide | omega)).trans (by first | assumption | exact hs_same _ _ _))))) rfl rfl ?_
        refine gs_cv 86 a_X5_partition_83 k_5_125 q_X5_bytesFrom (r_bytesFrom pp sy (by omega) s9 s2 w') rfl rfl rfl (by simp [Value.category]) (by first | assumption | exact hs_same _ _ _ | exact (hs_ne _ _ (by first | assumption | decide | omega)).trans (by first | assumption | exact hs_same _ _ _ | exact (hs_ne _ _ (by first | assumption | decide | omega)).trans (by first | assumption | exact hs_same _ _ _ | exact (hs_ne _ _ (by first | assumption | decide | omega)).trans (by first | assumption | exact hs_same _ _ _ | exact (hs_ne _ _ (by first | assumption | decide | omega)).trans (by first | assumption | exact hs_same _ _ _))))) rfl (fun v h1 hp => ?_)
        cases hp
        refine gs_iret a_X5_partition_86 rfl rfl ?_
        rfl
      · refine gs_n 87 a_X5_partition_11 rfl ?_
        refine gs_n 88 a_X5_partition_87 rfl ?_
        refine gs_get 91 a_X5_partition_88 f_5_99 (by first | assumption | exact hs_same _ _ _ | exact (hs_ne _ _ (by first | assumption | decide | omega)).trans (by first | assumption | exact hs_same _ _ _ | exact (hs_ne _ _ (by first | assumption | decide | omega)).trans (by first | assumption | exact hs_same _ _ _ | exact (hs_ne _ _ (by first | assumption | decide | omega)).trans (by first | assumption | exact hs_same _ _ _ | exact (hs_ne _ _ (by first | assumption | decide | omega)).trans (by first | assumption | exact hs_same _ _ _))))) rfl rfl ?_
        refine gs_if 98 94 a_X5_partition_91 rfl rfl (fun c => ?_) (fun c => ?_)
        · have c := (b01_0 _).mp c
          subst c
          obtain ⟨rfl, hnd⟩ := s11 rfl
          refine gs_n 99 a_X5_partition_98 rfl ?_
          refine gs_n 100 a_X5_partition_99 rfl ?_
          refine gs_cv 103 a_X5_partition_100 k_5_211 q_X5_seenOf (m_seenOf (show pp ≤ 8 by omega) hE (LK_of hv hnd hE hTR hp) wm) rfl rfl rfl (by simp [Value.category]) (by first | assumption | exact hs_same _ _ _ | exact (hs_ne _ _ (by first | assumption | decide | omega)).trans (by first | assumption | exact hs_same _ _ _ | exact (hs_ne _ _ (by first | assumption | decide | omega)).trans (by first | assumption | exact hs_same _ _ _ | exact (hs_ne _ _ (by first | assumption | decide | omega)).trans (by first | assumption | exact hs_same _ _ _ | exact (hs_ne _ _ (by first | assumption | decide | omega)).trans (by first | assumption | exact hs_same _ _ _))))) rfl (fun v h1 hp => ?_)
          cases hp
          refine gs_iret a_X5_partition_103 rfl rfl ?_
          rfl
        · have c := (b01_ne _).mp c
          subst c
          refine gs_k (-1) 95 a_X5_partition_94 (by decide +kernel) rfl ?_
          refine gs_n 103 a_X5_partition_95 rfl ?_
          refine gs_iret a_X5_partition_103 rfl rfl ?_
          rfl
      · refine gs_n 104 a_X5_partition_11 rfl ?_
        refine gs_n 105 a_X5_partition_104 rfl ?_
        refine gs_get 108 a_X5_partition_105 f_5_99 (by first | assumption | exact hs_same _ _ _ | exact (hs_ne _ _ (by first | assumption | decide | omega)).trans (by first | assumption | exact hs_same _ _ _ | exact (hs_ne _ _ (by first | assumption | decide | omega)).trans (by first | assumption | exact hs_same _ _ _ | exact (hs_ne _ _ (by first | assumption | decide | omega)).trans (by first | assumption | exact hs_same _ _ _ | exact (hs_ne _ _ (by first | assumption | decide | omega)).trans (by first | assumption | exact hs_same _ _ _))))) rfl rfl ?_
        refine gs_if 115 111 a_X5_partition_108 rfl rfl (fun c => ?_) (fun c => ?_)
        · have c := (b01_0 _).mp c
          subst c
          obtain ⟨n, ep, tx, bg, ba, ad, lc, de, mq, nx, la, en, hT⟩ := told_ex P X
          have hg : GT P cap X (n, ep, tx, bg, ba, ad, lc, de, mq, nx, la, en) := hT ▸ pv_all hv
          refine gs_n 116 a_X5_partition_115 rfl ?_
          refine gs_n 117 a_X5_partition_116 rfl ?_
          refine gs_cv 120 a_X5_partition_117 k_5_178 q_X5_openedAt (r_openedAt pp (by omega) (fun i hi => ⟨(T_b hv false i hi).2.1, fun q => by rw [tS_f, hT] at q ⊢; exact ((hg.1.2.2.2.2.1 i hi).2.2.2.2.2.2 q).2.1⟩) w') rfl rfl rfl (by simp [Value.category]) (by first | assumption | exact hs_same _ _ _ | exact (hs_ne _ _ (by first | assumption | decide | omega)).trans (by first | assumption | exact hs_same _ _ _ | exact (hs_ne _ _ (by first | assumption | decide | omega)).trans (by first | assumption | exact hs_same _ _ _ | exact (hs_ne _ _ (by first | assumption | decide | omega)).trans (by first | assumption | exact hs_same _ _ _ | exact (hs_ne _ _ (by first | assumption | decide | omega)).trans (by first | assumption | exact hs_same _ _ _))))) rfl (fun v h1 hp => ?_)
          cases hp
          refine gs_iret a_X5_partition_120 rfl rfl ?_
          rfl
        · have c := (b01_ne _).mp c
          subst c
          refine gs_k (-1) 112 a_X5_partition_111 (by decide +kernel) rfl ?_
          refine gs_n 120 a_X5_partition_112 rfl ?_
          refine gs_iret a_X5_partition_120 rfl rfl ?_
          rfl
    · rw [swi_d (by simp only [List.length_cons, List.length_nil]; omega)]
      refine gs_swd 121 a_X5_partition_11 (by omega) rfl ?_
      refine gs_k (-1) 122 a_X5_partition_121 (by decide +kernel) rfl ?_
      refine gs_iret a_X5_partition_122 rfl rfl ?_
      rfl
  · have c5 : isPn P p = false := (b01_0 _).mp (Classical.byContradiction c5)
    rw [if_pos c5]
    refine gs_k (-1) 9 a_X5_partition_8 (by decide +kernel) rfl ?_
    refine gs_iret a_X5_partition_9 rfl rfl ?_
    rfl
theorem l_entry {p m : Nat} {what : Int32} {R : Int32} (hp : p ≤ 8) (hm : m < 2 ^ 31) (hE : EA P ar X) (w : MW h (P, a1, a2, a3, a4, a5, X.length, a7, a8, a9, a10, a11, a12) ar) (hR : R = if m < (fl p X).length then swi what [nI (eK ((fl p X).getD m en0)), nI (eY ((fl p X).getD m en0)), nI (eE ((fl p X).getD m en0)), nI (eA ((fl p X).getD m en0)), nI (eB ((fl p X).getD m en0))] else -1) : ∀ (r j : Nat), j + r = X.length → (fl p (X.take j)).length ≤ m →
    gs none d mD_X5_entry (20, [(5, .int (nI j)), (4, .int (nI (m - (fl p (X.take j)).length))), (0, .ref 96), (1, .int (nI p)), (3, .int what)], [], h) (fun u => u = (some (.int R), h)) := by
  obtain ⟨hl, hok, ha⟩ := hE
  obtain ⟨w0, w1, w2, w3, w4, w5, w6, -⟩ := id w
  simp only [mcell] at w0
  intro r
  induction r with
  | zero =>
    intro j hj hm2
    rw [List.take_of_length_le (show X.length ≤ j by omega)] at hm2
    refine gs_n 22 a_X5_entry_20 rfl ?_
    refine gs_n 23 a_X5_entry_22 rfl ?_
    refine gs_get 26 a_X5_entry_23 f_5_106 (by first | assumption | exact hs_same _ _ _ | exact (hs_ne _ _ (by first | assumption | decide | omega)).trans (by first | assumption | exact hs_same _ _ _ | exact (hs_ne _ _ (by first | assumption | decide | omega)).trans (by first | assumption | exact hs_same _ _ _ | exact (hs_ne _ _ (by first | assumption | decide | omega)).trans (by first | assumption | exact hs_same _ _ _ | exact (hs_ne _ _ (by first | assumption | decide | omega)).trans (by first | assumption | exact hs_same _ _ _))))) rfl rfl ?_
    refine gs_ic 133 29 a_X5_entry_26 rfl rfl (fun c => ?_) (fun c => ?_)
    · refine gs_k (-1) 134 a_X5_entry_133 (by decide +kernel) rfl ?_
      refine gs_iret a_X5_entry_134 rfl rfl ?_
      rw [hR, if_neg (by omega)]
    · exact absurd (nI_le (by omega) (by omega)) c
  | succ r ih =>
    intro j hj hm2
    have hjl : j < X.length := by omega
    obtain ⟨g0, g1, g2, g3, g4, g5, -⟩ := ha j hjl
    have hokj := hok _ (getD_mem hjl)
    refine gs_n 22 a_X5_entry_20 rfl ?_
    refine gs_n 23 a_X5_entry_22 rfl ?_
    refine gs_get 26 a_X5_entry_23 f_5_106 (by first | assumption | exact hs_same _ _ _ | exact (hs_ne _ _ (by first | assumption | decide | omega)).trans (by first | assumption | exact hs_same _ _ _ | exact (hs_ne _ _ (by first | assumption | decide | omega)).trans (by first | assumption | exact hs_same _ _ _ | exact (hs_ne _ _ (by first | assumption | decide | omega)).trans (by first | assumption | exact hs_same _ _ _ | exact (hs_ne _ _ (by first | assumption | decide | omega)).trans (by first | assumption | exact hs_same _ _ _))))) rfl rfl ?_
    refine gs_ic 133 29 a_X5_entry_26 rfl rfl (fun c => ?_) (fun c => ?_)
    · exact absurd c (nI_ge (by omega) (by omega))
    · refine gs_n 30 a_X5_entry_29 rfl ?_
      refine gs_get 33 a_X5_entry_30 f_5_9 (by first | assumption | exact hs_same _ _ _ | exact (hs_ne _ _ (by first | assumption | decide | omega)).trans (by first | assumption | exact hs_same _ _ _ | exact (hs_ne _ _ (by first | assumption | decide | omega)).trans (by first | assumption | exact hs_same _ _ _ | exact (hs_ne _ _ (by first | assumption | decide | omega)).trans (by first | assumption | exact hs_same _ _ _ | exact (hs_ne _ _ (by first | assumption | decide | omega)).trans (by first | assumption | exact hs_same _ _ _))))) rfl rfl ?_
      refine gs_n 35 a_X5_entry_33 rfl ?_
      refine gs_ia j 36 a_X5_entry_35 (by first | assumption | exact hs_same _ _ _ | exact (hs_ne _ _ (by first | assumption | decide | omega)).trans (by first | assumption | exact hs_same _ _ _ | exact (hs_ne _ _ (by first | assumption | decide | omega)).trans (by first | assumption | exact hs_same _ _ _ | exact (hs_ne _ _ (by first | assumption | decide | omega)).trans (by first | assumption | exact hs_same _ _ _ | exact (hs_ne _ _ (by first | assumption | decide | omega)).trans (by first | assumption | exact hs_same _ _ _))))) rfl (by omega) (by omega) rfl ?_
      rw [g0]
      refine gs_n 37 a_X5_entry_36 rfl ?_
      refine gs_ic 43 40 a_X5_entry_37 rfl rfl (fun c2 => ?_) (fun c2 => ?_)
      · have c2 : nI (eF (X.getD j en0)) = nI p := c2
        rw [nI_eq (by have := hokj.1; omega) (by omega)] at c2
        have ho := fl_lt hjl c2
        have hget := fl_getD hjl c2
        have hfp := fl_tk (p := p) hjl
        rw [if_pos c2] at hfp
        have hlp : (fl p (X.take (j + 1))).length = (fl p (X.take j)).length + 1 := by rw [hfp, List.length_append]; rfl
        refine gs_n 45 a_X5_entry_43 rfl ?_
        refine gs_if 124 48 a_X5_entry_45 rfl rfl (fun c45 => ?_) (fun c45 => ?_)
        · have c45 : ¬ nI (m - (fl p (X.take j)).length) = nI 0 := c45
          rw [nI_eq (by omega) (by omega)] at c45
          refine gs_n 127 a_X5_entry_124 rfl ?_
          first | refine gs_inc _ 130 a_X5_entry_127 rfl (Nat.le_of_ble_eq_true rfl) rfl ?_ | refine gs_n 130 a_X5_entry_127 rfl ?_
          refine gs_n 20 a_X5_entry_130 rfl ?_
          refine gs_w [(5, .int (nI (j + 1))), (4, .int (nI (m - (fl p (X.take j)).length) + Int32.ofInt (-1))), (0, .ref 96), (1, .int (nI p)), (3, .int what)] (by simp [ix_nd]) (by intro x hx; simp only [List.mem_cons, List.not_mem_nil, or_false] at hx; rcases hx with rfl | rfl | rfl | rfl | rfl <;> rfl) ?_
          rw [dec1, show nI (m - (fl p (X.take j)).length) - nI 1 = nI (m - (fl p (X.take j)).length - 1) from pk_sub (by omega), show m - (fl p (X.take j)).length - 1 = m - (fl p (X.take (j + 1))).length by omega]
          exact ih (j + 1) (by omega) (by omega)
        · have c45 : nI (m - (fl p (X.take j)).length) = nI 0 := Classical.byContradiction c45
          rw [nI_eq (by omega) (by omega)] at c45
          have hmo : m = (fl p (X.take j)).length := by omega
          rw [if_pos (by omega), hmo, hget] at hR
          refine gs_n 49 a_X5_entry_48 rfl ?_
          refine gs_if 62 52 a_X5_entry_49 rfl rfl (fun c49 => ?_) (fun c49 => ?_)
          · have c49 : ¬ what = nI 0 := c49
            refine gs_n 63 a_X5_entry_62 rfl ?_
            refine gs_k (nI 1) 64 a_X5_entry_63 (by decide +kernel) rfl ?_
            refine gs_ic 77 67 a_X5_entry_64 rfl rfl (fun c64 => ?_) (fun c64 => ?_)
            · have c64 : ¬ what = nI 1 := c64
              refine gs_n 78 a_X5_entry_77 rfl ?_
              refine gs_k (nI 2) 79 a_X5_entry_78 (by decide +kernel) rfl ?_
              refine gs_ic 92 82 a_X5_entry_79 rfl rfl (fun c79 => ?_) (fun c79 => ?_)
              · have c79 : ¬ what = nI 2 := c79
                refine gs_n 93 a_X5_entry_92 rfl ?_
                refine gs_k (nI 3) 94 a_X5_entry_93 (by decide +kernel) rfl ?_
                refine gs_ic 107 97 a_X5_entry_94 rfl rfl (fun c94 => ?_) (fun c94 => ?_)
                · have c94 : ¬ what = nI 3 := c94
                  refine gs_n 108 a_X5_entry_107 rfl ?_
                  refine gs_k (nI 4) 109 a_X5_entry_108 (by decide +kernel) rfl ?_
                  refine gs_ic 122 112 a_X5_entry_109 rfl rfl (fun c109 => ?_) (fun c109 => ?_)
                  · have c109 : ¬ what = nI 4 := c109
                    refine gs_k (-1) 123 a_X5_entry_122 (by decide +kernel) rfl ?_
                    refine gs_iret a_X5_entry_123 rfl rfl ?_
                    rcases sw_cases what 5 with ⟨i, hi, rfl⟩ | hd
                    · exfalso
                      rcases (by omega : i = 0 ∨ i = 1 ∨ i = 2 ∨ i = 3 ∨ i = 4) with z | z | z | z | z <;> subst z
                      · exact c49 rfl
                      · exact c64 rfl
                      · exact c79 rfl
                      · exact c94 rfl
                      · exact c109 rfl
                    · rw [hR, swi_d (by simp only [List.length_cons, List.length_nil]; omega)]
                  · have c109 : what = nI 4 := Classical.byContradiction c109
                    refine gs_n 113 a_X5_entry_112 rfl ?_
                    refine gs_get 116 a_X5_entry_113 f_5_25 (by first | assumption | exact hs_same _ _ _ | exact (hs_ne _ _ (by first | assumption | decide | omega)).trans (by first | assumption | exact hs_same _ _ _ | exact (hs_ne _ _ (by first | assumption | decide | omega)).trans (by first | assumption | exact hs_same _ _ _ | exact (hs_ne _ _ (by first | assumption | decide | omega)).trans (by first | assumption | exact hs_same _ _ _ | exact (hs_ne _ _ (by first | assumption | decide | omega)).trans (by first | assumption | exact hs_same _ _ _))))) rfl rfl ?_
                    refine gs_n 118 a_X5_entry_116 rfl ?_
                    refine gs_ia j 119 a_X5_entry_118 (by first | assumption | exact hs_same _ _ _ | exact (hs_ne _ _ (by first | assumption | decide | omega)).trans (by first | assumption | exact hs_same _ _ _ | exact (hs_ne _ _ (by first | assumption | decide | omega)).trans (by first | assumption | exact hs_same _ _ _ | exact (hs_ne _ _ (by first | assumption | decide | omega)).trans (by first | assumption | exact hs_same _ _ _ | exact (hs_ne _ _ (by first | assumption | decide | omega)).trans (by first | assumption | exact hs_same _ _ _))))) rfl (by omega) (by omega) rfl ?_
                    rw [g5]
                    refine gs_n 123 a_X5_entry_119 rfl ?_
                    refine gs_iret a_X5_entry_123 rfl rfl ?_
                    rw [hR, c109, swi_n (by simp) (by simp)]
                    rfl
                · have c94 : what = nI 3 := Classical.byContradiction c94
                  refine gs_n 98 a_X5_entry_97 rfl ?_
                  refine gs_get 101 a_X5_entry_98 f_5_22 (by first | assumption | exact hs_same _ _ _ | exact (hs_ne _ _ (by first | assumption | decide | omega)).trans (by first | assumption | exact hs_same _ _ _ | exact (hs_ne _ _ (by first | assumption | decide | omega)).trans (by first | assumption | exact hs_same _ _ _ | exact (hs_ne _ _ (by first | assumption | decide | omega)).trans (by first | assumption | exact hs_same _ _ _ | exact (hs_ne _ _ (by first | assumption | decide | omega)).trans (by first | assumption | exact hs_same _ _ _))))) rfl rfl ?_
                  refine gs_n 103 a_X5_entry_101 rfl ?_
                  refine gs_ia j 104 a_X5_entry_103 (by first | assumption | exact hs_same _ _ _ | exact (hs_ne _ _ (by first | assumption | decide | omega)).trans (by first | assumption | exact hs_same _ _ _ | exact (hs_ne _ _ (by first | assumption | decide | omega)).trans (by first | assumption | exact hs_same _ _ _ | exact (hs_ne _ _ (by first | assumption | decide | omega)).trans (by first | assumption | exact hs_same _ _ _ | exact (hs_ne _ _ (by first | assumption | decide | omega)).trans (by first | assumption | exact hs_same _ _ _))))) rfl (by omega) (by omega) rfl ?_
                  rw [g4]
                  refine gs_n 123 a_X5_entry_104 rfl ?_
                  refine gs_iret a_X5_entry_123 rfl rfl ?_
                  rw [hR, c94, swi_n (by simp) (by simp)]
                  rfl
              · have c79 : what = nI 2 := Classical.byContradiction c79
                refine gs_n 83 a_X5_entry_82 rfl ?_
                refine gs_get 86 a_X5_entry_83 f_5_19 (by first | assumption | exact hs_same _ _ _ | exact (hs_ne _ _ (by first | assumption | decide | omega)).trans (by first | assumption | exact hs_same _ _ _ | exact (hs_ne _ _ (by first | assumption | decide | omega)).trans (by first | assumption | exact hs_same _ _ _ | exact (hs_ne _ _ (by first | assumption | decide | omega)).trans (by first | assumption | exact hs_same _ _ _ | exact (hs_ne _ _ (by first | assumption | decide | omega)).trans (by first | assumption | exact hs_same _ _ _))))) rfl rfl ?_
                refine gs_n 88 a_X5_entry_86 rfl ?_
                refine gs_ia j 89 a_X5_entry_88 (by first | assumption | exact hs_same _ _ _ | exact (hs_ne _ _ (by first | assumption | decide | omega)).trans (by first | assumption | exact hs_same _ _ _ | exact (hs_ne _ _ (by first | assumption | decide | omega)).trans (by first | assumption | exact hs_same _ _ _ | exact (hs_ne _ _ (by first | assumption | decide | omega)).trans (by first | assumption | exact hs_same _ _ _ | exact (hs_ne _ _ (by first | assumption | decide | omega)).trans (by first | assumption | exact hs_same _ _ _))))) rfl (by omega) (by omega) rfl ?_
                rw [g3]
                refine gs_n 123 a_X5_entry_89 rfl ?_
                refine gs_iret a_X5_entry_123 rfl rfl ?_
                rw [hR, c79, swi_n (by simp) (by simp)]
                rfl
            · have c64 : what = nI 1 := Classical.byContradiction c64
              refine gs_n 68 a_X5_entry_67 rfl ?_
              refine gs_get 71 a_X5_entry_68 f_5_16 (by first | assumption | exact hs_same _ _ _ | exact (hs_ne _ _ (by first | assumption | decide | omega)).trans (by first | assumption | exact hs_same _ _ _ | exact (hs_ne _ _ (by first | assumption | decide | omega)).trans (by first | assumption | exact hs_same _ _ _ | exact (hs_ne _ _ (by first | assumption | decide | omega)).trans (by first | assumption | exact hs_same _ _ _ | exact (hs_ne _ _ (by first | assumption | decide | omega)).trans (by first | assumption | exact hs_same _ _ _))))) rfl rfl ?_
              refine gs_n 73 a_X5_entry_71 rfl ?_
              refine gs_ia j 74 a_X5_entry_73 (by first | assumption | exact hs_same _ _ _ | exact (hs_ne _ _ (by first | assumption | decide | omega)).trans (by first | assumption | exact hs_same _ _ _ | exact (hs_ne _ _ (by first | assumption | decide | omega)).trans (by first | assumption | exact hs_same _ _ _ | exact (hs_ne _ _ (by first | assumption | decide | omega)).trans (by first | assumption | exact hs_same _ _ _ | exact (hs_ne _ _ (by first | assumption | decide | omega)).trans (by first | assumption | exact hs_same _ _ _))))) rfl (by omega) (by omega) rfl ?_
              rw [g2]
              refine gs_n 123 a_X5_entry_74 rfl ?_
              refine gs_iret a_X5_entry_123 rfl rfl ?_
              rw [hR, c64, swi_n (by simp) (by simp)]
              rfl
          · have c49 : what = nI 0 := Classical.byContradiction c49
            refine gs_n 53 a_X5_entry_52 rfl ?_
            refine gs_get 56 a_X5_entry_53 f_5_13 (by first | assumption | exact hs_same _ _ _ | exact (hs_ne _ _ (by first | assumption | decide | omega)).trans (by first | assumption | exact hs_same _ _ _ | exact (hs_ne _ _ (by first | assumption | decide | omega)).trans (by first | assumption | exact hs_same _ _ _ | exact (hs_ne _ _ (by first | assumption | decide | omega)).trans (by first | assumption | exact hs_same _ _ _ | exact (hs_ne _ _ (by first | assumption | decide | omega)).trans (by first | assumption | exact hs_same _ _ _))))) rfl rfl ?_
            refine gs_n 58 a_X5_entry_56 rfl ?_
            refine gs_ia j 59 a_X5_entry_58 (by first | assumption | exact hs_same _ _ _ | exact (hs_ne _ _ (by first | assumption | decide | omega)).trans (by first | assumption | exact hs_same _ _ _ | exact (hs_ne _ _ (by first | assumption | decide | omega)).trans (by first | assumption | exact hs_same _ _ _ | exact (hs_ne _ _ (by first | assumption | decide | omega)).trans (by first | assumption | exact hs_same _ _ _ | exact (hs_ne _ _ (by first | assumption | decide | omega)).trans (by first | assumption | exact hs_same _ _ _))))) rfl (by omega) (by omega) rfl ?_
            rw [g1]
            refine gs_n 123 a_X5_entry_59 rfl ?_
            refine gs_iret a_X5_entry_123 rfl rfl ?_
            rw [hR, c49, swi_n (by simp) (by simp)]
            rfl
      · have c2 : ¬ nI (eF (X.getD j en0)) = nI p := c2
        rw [nI_eq (by have := hokj.1; omega) (by omega)] at c2
        have hfp := fl_tk (p := p) hjl
        rw [if_neg c2] at hfp
        refine gs_n 127 a_X5_entry_40 rfl ?_
        first | refine gs_inc _ 130 a_X5_entry_127 rfl (Nat.le_of_ble_eq_true rfl) rfl ?_ | refine gs_n 130 a_X5_entry_127 rfl ?_
        refine gs_n 20 a_X5_entry_130 rfl ?_
        refine gs_w [(5, .int (nI (j + 1))), (4, .int (nI (m - (fl p (X.take j)).length))), (0, .ref 96), (1, .int (nI p)), (3, .int what)] (by simp [ix_nd]) (by intro x hx; simp only [List.mem_cons, List.not_mem_nil, or_false] at hx; rcases hx with rfl | rfl | rfl | rfl | rfl <;> rfl) ?_
        rw [← hfp]
        exact ih (j + 1) (by omega) (by rw [hfp]; exact hm2)
theorem r_entry (p o what : Int32) (hs : SI (P, cap, tmo, clk, cl, cut, X, sy, torn, tE, tp, an)) (w : RS h (P, cap, tmo, clk, cl, cut, X, sy, torn, tE, tp, an)) : ev (d + 2) n_X5_entry [.ref 96, .int p, .int o, .int what] h (fun u => u = (some (.int (F_entry (P, cap, tmo, clk, cl, cut, X, sy, torn, tE, tp, an) p o what)), h)) := by
  obtain ⟨s1, s2, -⟩ := hs
  have w' : RE h P cap tmo clk cl cut X sy torn tE tp an (tS cl P X) := w
  obtain ⟨ar, wm, hE, -⟩ := w'.un
  have w0 := wm.1
  simp only [mcell] at w0
  simp only [F_entry]
  refine ev_of q_X5_entry (Nat.le_of_ble_eq_true rfl) ?_
  refine gs_n 1 a_X5_entry_0 rfl ?_
  refine gs_n 2 a_X5_entry_1 rfl ?_
  refine gs_cv 5 a_X5_entry_2 k_5_185 q_X5_isPartition (r_isPart p s2 w') rfl rfl rfl (by simp [Value.category]) (by first | assumption | exact hs_same _ _ _ | exact (hs_ne _ _ (by first | assumption | decide | omega)).trans (by first | assumption | exact hs_same _ _ _ | exact (hs_ne _ _ (by first | assumption | decide | omega)).trans (by first | assumption | exact hs_same _ _ _ | exact (hs_ne _ _ (by first | assumption | decide | omega)).trans (by first | assumption | exact hs_same _ _ _ | exact (hs_ne _ _ (by first | assumption | decide | omega)).trans (by first | assumption | exact hs_same _ _ _))))) rfl (fun v h1 hp => ?_)
  cases hp
  refine gs_if 12 8 a_X5_entry_5 rfl rfl (fun c5 => ?_) (fun c5 => ?_)
  · have c5 := (b01_0 _).mp c5
    rw [if_pos (by rw [c5]; rfl)]
    refine gs_k (-1) 13 a_X5_entry_12 (by decide +kernel) rfl ?_
    refine gs_iret a_X5_entry_13 rfl rfl ?_
    rfl
  · have c5 := (b01_ne _).mp c5
    refine gs_n 9 a_X5_entry_8 rfl ?_
    refine gs_if 14 12 a_X5_entry_9 rfl rfl (fun c9 => ?_) (fun c9 => ?_)
    · have c9 : 0 ≤ o := c9
      rw [le0_iff] at c9
      obtain ⟨hp, hpx⟩ := isPn_kn c5
      have hfx : o = nI (kn o) := nI_ofInt c9
      have hmb : kn o < 2 ^ 31 := by have := Int32.toInt_lt o; unfold kn; omega
      have hin : (0 ≤ o.toInt ∧ o.toInt < ((fl (kn p) X).length : Int)) ↔ kn o < (fl (kn p) X).length := by unfold kn; omega
      refine gs_n 15 a_X5_entry_14 rfl ?_
      refine gs_n 17 a_X5_entry_15 rfl ?_
      refine gs_k (nI 0) 18 a_X5_entry_17 (by decide +kernel) rfl ?_
      refine gs_n 20 a_X5_entry_18 rfl ?_
      generalize hkp : kn p = pp at *
      generalize hko : kn o = m at *
      subst hpx
      refine gs_w [(5, .int (nI 0)), (4, .int o), (0, .ref 96), (1, .int (nI pp)), (3, .int what)] (by simp [ix_nd]) (by intro x hx; simp only [List.mem_cons, List.not_mem_nil, or_false] at hx; rcases hx with rfl | rfl | rfl | rfl | rfl <;> rfl) ?_
      have := l_entry (d := d + 1) (p := pp) (m := m) (what := what) (show pp ≤ 8 by omega) hmb hE wm rfl X.length 0 (by omega) (Nat.zero_le _)
      rw [show m - (fl pp (X.take 0)).length = m from Nat.sub_zero m, ← hfx] at this
      refine gs_post this ?_
      rintro u rfl
      by_cases z : m < (fl pp X).length
      · rw [if_pos z, if_neg (by rw [c5, decide_eq_true (hin.mpr z)]; simp)]
      · rw [if_neg z, if_pos (by rw [decide_eq_false (fun q => z (hin.mp q))]; simp)]
    · have c9 : ¬ 0 ≤ o := c9
      rw [le0_iff] at c9
      rw [if_pos (by rw [decide_eq_false (by omega)]; simp)]
      refine gs_k (-1) 13 a_X5_entry_12 (by decide +kernel) rfl ?_
      refine gs_iret a_X5_entry_13 rfl rfl ?_
      rfl
end R11
