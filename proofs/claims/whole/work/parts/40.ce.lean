/-! THE CLASS'S CELLS OUT OF THE ABSTRACT STATE -/
def PR (s : PS) (e t b a : Nat) (d : Int32) (l c : Nat) : Prop := s.1 = m1 e ∧ s.2.1 = m1 t ∧ s.2.2.1 = m1 b ∧ (t ≠ 0 → s.2.2.2.1 = nI (16 * a)) ∧ s.2.2.2.2.1 = d ∧ s.2.2.2.2.2.1 = nI l ∧ s.2.2.2.2.2.2 = m1 c
def lgO (P : Nat) (X : List En) : Nat → List En := fun p => if p < P then fl p X else []
def unO (P : Nat) (X : List En) (sy : Nat) : List (Nat × Nat) := (X.drop sy).map (fun e => (eF e, sz P e))
theorem tnO_0 (P : Nat) (tE : En) : tnO P 0 tE = fun _ => [] := by funext p; simp [tnO]
theorem btO_0 (P : Nat) (tE : En) : btO P 0 tE = [] := by simp [btO]
def CE (h : ix_H) (P cap tmo clk : Nat) (cl : Bool) (cut : Nat) (X : List En) (sy torn : Nat) (tE : En) (tp an : List Nat) : TS → Prop
  | (_, ep, tx, bg, ba, ad, lc, de, mq, nx, _, _) => ∃ pr mk, CW h (P, cap, tmo, clk, cl, cut, nx) (lgO P X) (tnO P torn tE) (fl P X) (btO P torn tE) (unO P X sy) pr mk tp an ∧ (∀ k, k < 32 → PR (pr k) (ep k) (tx k) (bg k) (ba k) (ad k) (lc k) (de k)) ∧ (∀ i, i < 64 → mk i = m1 (mq i)) ∧ sy ≤ X.length
section CE1
variable {d : Nat} {h : ix_H} {P cap tmo clk cut sy torn : Nat} {cl : Bool} {X : List En} {tE : En} {tp an : List Nat} {n nx : Nat} {ep tx bg ba lc de mq en : Nat → Nat} {ad : Nat → Int32} {la : List (Nat × Nat × Nat)} {T : TS}
theorem unO_snoc (e : En) (h : sy ≤ X.length) : unO P (X ++ [e]) sy = unO P X sy ++ [(eF e, sz P e)] := by
  unfold unO
  rw [List.drop_append_of_le_length h, List.map_append]
  rfl
theorem unO_len : (unO P X sy).length = X.length - sy := by simp [unO]
theorem lgO_book {e : En} (he : eF e = P) : lgO P (X ++ [e]) = lgO P X := by
  funext p
  unfold lgO
  by_cases z : p < P
  · rw [if_pos z, if_pos z, fl_b z he]
  · rw [if_neg z, if_neg z]
theorem lgO_log {e : En} (he : eF e < P) : lgO P (X ++ [e]) = va_up (lgO P X) (eF e) (lgO P X (eF e) ++ [e]) := by
  funext p
  by_cases z : p = eF e
  · subst z
    rw [va_up_self]
    unfold lgO
    rw [if_pos he, if_pos he, fl_s]
  · rw [va_up_ne _ _ z]
    unfold lgO
    rw [fl_q z]
/-- marks out of a list of places and offsets -/
def mkL (l : List (Nat × Nat)) (mq : Nat → Nat) : Nat → Nat := l.foldl (fun m x => va_up m x.1 (x.2 + 1)) mq
theorem mkOf_L (la : List (Nat × Nat × Nat)) (t : Nat) (mq : Nat → Nat) : mkOf la t mq = mkL (latT la t) mq := by
  unfold mkOf mkL latT
  induction la generalizing mq with
  | nil => rfl
  | cons a l ih =>
    simp only [List.foldl_cons]
    rw [ih]
    by_cases z : a.1 = t
    · simp [z]
    · simp [z]
theorem mlat_L (key : Nat) : ∀ (m s : Nat) (bk : List En) (mk : Nat → Int32) (mq : Nat → Nat), s + m ≤ bk.length → (∀ e ∈ bk, okB e) → (∀ i, i < 64 → mk i = m1 (mq i)) → ∀ i, i < 64 → mlat bk key s m mk i = m1 (mkL (latE ((bk.drop s).take m) key) mq i) := by
  intro m
  induction m with
  | zero =>
    intro s bk mk mq _ _ hm i hi
    simp only [mlat, List.take_zero]
    exact hm i hi
  | succ m ih =>
    intro s bk mk mq hs hok hm i hi
    simp only [mlat]
    rw [drop_cons (by omega), List.take_succ_cons]
    by_cases z : eK (bk.getD s en0) = 3 ∧ eY (bk.getD s en0) = key
    · rw [if_pos z]
      have h1 := ih (s + 1) bk (upd mk (eA (bk.getD s en0)) (nI (eB (bk.getD s en0)))) (va_up mq (eA (bk.getD s en0)) (eB (bk.getD s en0) + 1)) (by omega) hok (fun j hj => by
        by_cases y : j = eA (bk.getD s en0)
        · subst y; rw [va_up_self, m1_s]; simp [upd]
        · rw [va_up_ne _ _ y, ← hm j hj]; simp only [upd]; rw [if_neg y]) i hi
      rw [h1]
      simp only [latE, List.filter_cons, mkL]
      rw [if_pos (by simpa using z)]
      rfl
    · rw [if_neg z]
      rw [ih (s + 1) bk mk mq (by omega) hok hm i hi]
      simp only [latE, List.filter_cons]
      rw [if_neg (by simpa using z)]
theorem nI16 (j : Nat) (h : 16 * j < 2 ^ 31) {q : PS} (hq : q.2.2.2.1 = nI (16 * j)) : baI q = j := by
  unfold baI
  rw [hq, nI_toInt h]
  omega
set_option maxHeartbeats 1000000 in
/-- the book is written: the cells tell what the abstract state tells -/
theorem c_book (K k E a b : Nat) (hcap : cap ≤ 4000) (hP : P ≤ 8) (hok : okE P (P, K, k, E, a, b, 0, [])) (g : GT P cap X T) (hn : 16 * T.1 + 16 ≤ 16000) (hb : K = 1 → b ≤ 1000) (h5 : K = 5 → T.2.2.1 k ≠ 0) (w : CE h P cap tmo clk cl cut X sy 0 tE tp an T) : ev (d + 4) n_X4_writeToBook [.ref 0, .int (nI K), .int (nI k), .int (nI E), .int (nI a), .int (nI b)] h (fun u => u.1 = none ∧ FS cC h u.2 ∧ CE u.2 P cap tmo clk cl cut (X ++ [(P, K, k, E, a, b, 0, [])]) sy 0 tE tp an (tell T (P, K, k, E, a, b, 0, []))) := by
  obtain ⟨n, ep, tx, bg, ba, ad, lc, de, mq, nx, la, en⟩ := T
  obtain ⟨pr, mk, w, hpr, hmk, hsy⟩ := w
  obtain ⟨⟨a1, a2, a3, a4, a5, a6, a7, a8⟩, l, ⟨e1, e2, e3⟩, f, ⟨r1, r2⟩⟩ := g
  simp only at hn h5
  have hokB := hok.2.2.1 rfl
  have hk : k < 32 := hokB.2.1
  obtain ⟨b1, b2, b3, b4, b5, b6, b7⟩ := a5 k hk
  obtain ⟨q1, q2, q3, q4, q5, q6, q7⟩ := hpr k hk
  have hlb := len_bound hP hcap a4 (fun p hp => Nat.le_trans (Nat.le_add_right _ _) (r2 p hp))
  have hba : tx k ≠ 0 → baI (pr k) = ba k := fun ht => nI16 _ (by have := (b6 ht).2.2; omega) (q4 ht)
  refine ev_post (e_writeBook (d := d) K k E a b hokB (btO_0 P tE) (by rw [← a1]; omega) (by rw [unO_len]; omega) (fun z => by have := hb z; omega) (fun z z2 => ?_) w) ?_
  · have h6 := h5 z
    exact ⟨ba k, q4 h6, by have := (b6 h6).2.2; omega⟩
  · rintro ⟨v, h'⟩ ⟨e1', hF, w'⟩
    refine ⟨e1', hF, ?_⟩
    have hg : (fl P X ++ [((P, K, k, E, a, b, 0, []) : En)]).getD (fl P X).length en0 = (P, K, k, E, a, b, 0, []) := getD_last _
    have hfl : fl P (X ++ [((P, K, k, E, a, b, 0, []) : En)]) = fl P X ++ [(P, K, k, E, a, b, 0, [])] := by rw [fl_snoc, if_pos rfl]
    have hun : unO P (X ++ [((P, K, k, E, a, b, 0, []) : En)]) sy = unO P X sy ++ [(P, 16)] := by rw [unO_snoc _ hsy]; simp [sz]
    have hlg : lgO P (X ++ [((P, K, k, E, a, b, 0, []) : En)]) = lgO P X := lgO_book rfl
    have hsy' : sy ≤ (X ++ [((P, K, k, E, a, b, 0, []) : En)]).length := by rw [List.length_append]; omega
    have hup : ∀ (s : PS) (e' t' b' a' : Nat) (d' : Int32) (l' c' : Nat) (ep' tx' bg' ba' : Nat → Nat) (ad' : Nat → Int32) (lc' de' : Nat → Nat), PR s e' t' b' a' d' l' c' → (ep' = va_up ep k e' ∧ tx' = va_up tx k t' ∧ bg' = va_up bg k b' ∧ ba' = va_up ba k a' ∧ ad' = va_up ad k d' ∧ lc' = va_up lc k l' ∧ de' = va_up de k c') → ∀ j, j < 32 → PR (va_up pr k s j) (ep' j) (tx' j) (bg' j) (ba' j) (ad' j) (lc' j) (de' j) := by
      rintro s e' t' b' a' d' l' c' ep' tx' bg' ba' ad' lc' de' hs ⟨rfl, rfl, rfl, rfl, rfl, rfl, rfl⟩ j hj
      by_cases z : j = k
      · subst z; simp only [va_up_self]; exact hs
      · simp only [va_up_ne _ _ z]; exact hpr j hj
    have hid : ∀ {α : Type} (f : Nat → α), f = va_up f k (f k) := by
      intro α f
      funext j
      by_cases z : j = k
      · subst z; rw [va_up_self]
      · rw [va_up_ne _ _ z]
    simp only [tellP, tellM, tellN, hg] at w'
    rcases (by have : K ≤ 6 := hokB.1; omega : K = 0 ∨ K = 1 ∨ K = 2 ∨ K = 3 ∨ K = 4 ∨ K = 5 ∨ K = 6) with z | z | z | z | z | z | z <;> subst z
    · refine ⟨va_up pr k (nI E, (pr k).2), mk, by rw [hlg, hfl, hun, btO_0]; exact w', hup _ (E + 1) (tx k) (bg k) (ba k) (ad k) (lc k) (de k) _ _ _ _ _ _ _ ⟨(m1_s E).symm, q2, q3, q4, q5, q6, q7⟩ ⟨rfl, hid _, hid _, hid _, hid _, hid _, hid _⟩, hmk, hsy'⟩
    · refine ⟨va_up pr k ((pr k).1, nI b, nI a, nI (16 * n), (pr k).2.2.2.2), mk, by rw [hlg, hfl, hun, btO_0, a1]; exact w', hup _ (ep k) (b + 1) (a + 1) n (ad k) (lc k) (de k) _ _ _ _ _ _ _ ⟨q1, (m1_s b).symm, (m1_s a).symm, fun _ => rfl, q5, q6, q7⟩ ⟨hid _, rfl, rfl, rfl, hid _, hid _, hid _⟩, hmk, hsy'⟩
    · refine ⟨va_up pr k ((pr k).1, (pr k).2.1, (pr k).2.2.1, (pr k).2.2.2.1, (pr k).2.2.2.2.1 ||| (nI 1 <<< (nI a &&& 31)), (pr k).2.2.2.2.2), mk, by rw [hlg, hfl, hun, btO_0]; exact w', hup _ (ep k) (tx k) (bg k) (ba k) (ad k ||| (nI 1 <<< (nI a &&& 31))) (lc k) (de k) _ _ _ _ _ _ _ ⟨q1, q2, q3, q4, by simp only [q5], q6, q7⟩ ⟨hid _, hid _, hid _, hid _, rfl, hid _, hid _⟩, hmk, hsy'⟩
    · refine ⟨va_up pr k ((pr k).1, (pr k).2.1, (pr k).2.2.1, (pr k).2.2.2.1, (pr k).2.2.2.2.1, (pr k).2.2.2.2.2.1 + nI 1, (pr k).2.2.2.2.2.2), mk, by rw [hlg, hfl, hun, btO_0]; exact w', hup _ (ep k) (tx k) (bg k) (ba k) (ad k) (lc k + 1) (de k) _ _ _ _ _ _ _ ⟨q1, q2, q3, q4, q5, by simp only [q6]; exact nI_add _ _, q7⟩ ⟨hid _, hid _, hid _, hid _, hid _, rfl, hid _⟩, hmk, hsy'⟩
    · refine ⟨va_up pr k ((pr k).1, (pr k).2.1, (pr k).2.2.1, (pr k).2.2.2.1, (pr k).2.2.2.2.1, (pr k).2.2.2.2.2.1, nI a), mk, by rw [hlg, hfl, hun, btO_0]; exact w', hup _ (ep k) (tx k) (bg k) (ba k) (ad k) (lc k) (a + 1) _ _ _ _ _ _ _ ⟨q1, q2, q3, q4, q5, q6, (m1_s a).symm⟩ ⟨hid _, hid _, hid _, hid _, hid _, hid _, rfl⟩, hmk, hsy'⟩
    · have ht := h5 rfl
      refine ⟨va_up pr k ((pr k).1, -1, -1, (pr k).2.2.2.1, nI 0, nI 0, -1), (if (pr k).2.2.2.2.2.2 = nI 1 then mlat (fl P X ++ [((P, 5, k, E, a, b, 0, []) : En)]) k (baI (pr k)) ((fl P X).length - baI (pr k)) mk else mk), by rw [hlg, hfl, hun, btO_0]; exact w', hup _ (ep k) 0 0 (ba k) (nI 0) 0 0 _ _ _ _ _ _ _ ⟨q1, m1_0.symm, m1_0.symm, fun z => absurd rfl z, rfl, rfl, m1_0.symm⟩ ⟨hid _, rfl, rfl, hid _, rfl, rfl, rfl⟩, ?_, hsy'⟩
      intro i hi
      rw [q7]
      have hde : m1 (de k) = nI 1 ↔ de k = 2 := m1_nI (by omega) (by omega)
      by_cases y : de k = 2
      · rw [if_pos (hde.mpr y), if_pos y, hba ht, mkOf_L, (l k hk ht).1]
        have hbl := (b6 ht).2.2
        rw [mlat_L k _ _ _ mk mq (by rw [List.length_append]; omega) (by
          intro e he
          rcases List.mem_append.mp he with z | z
          · exact (a4 e (fl_mem z).1).2.2.1 (fl_mem z).2
          · rw [List.mem_singleton.mp z]; exact hokB) hmk i hi]
        rw [drop_sn (by omega), List.take_append_of_le_length (by rw [List.length_drop]; omega), List.take_of_length_le (by rw [List.length_drop]; omega)]
      · rw [if_neg (fun z => y (hde.mp z)), if_neg y]
        exact hmk i hi
    · refine ⟨pr, upd mk a (nI b), by rw [hlg, hfl, hun, btO_0]; exact w', hpr, ?_, hsy'⟩
      intro i hi
      by_cases y : i = a
      · subst y; rw [va_up_self, m1_s]; simp [upd]
      · rw [va_up_ne _ _ y, ← hmk i hi]; simp only [upd]; rw [if_neg y]
/-- a partition is written -/
theorem c_log {r a' N : Nat} {pay : List Nat} (p kind key ee num of : Nat) (hcap : cap ≤ 4000) (hP : P ≤ 8) (hp : p < P) (hra : (r = 1 ∧ a' = 2 ∧ N = 40 ∧ pay = tp) ∨ (r = 5 ∧ a' = 6 ∧ N = 0 ∧ pay = [])) (hok : okE P (p, kind, key, ee, num, pay.length, of, pay)) (g : GT P cap X T) (hN : bytesP p X + 14 + pay.length ≤ cap) (w : CE h P cap tmo clk cl cut X sy 0 tE tp an T) : ev (d + 5) n_X4_writeToLog [.ref 0, .int (nI p), .int (nI kind), .int (nI key), .int (nI ee), .int (nI num), .ref r] h (fun u => u.1 = some (.int (nI (fl p X).length)) ∧ FS cC h u.2 ∧ CE u.2 P cap tmo clk cl cut (X ++ [(p, kind, key, ee, num, pay.length, of, pay)]) sy 0 tE tp an T) := by
  obtain ⟨n, ep, tx, bg, ba, ad, lc, de, mq, nx, la, en⟩ := T
  obtain ⟨pr, mk, w, hpr, hmk, hsy⟩ := w
  obtain ⟨⟨a1, a2, a3, a4, a5, a6, a7, a8⟩, l, ⟨e1, e2, e3⟩, f, ⟨r1, r2⟩⟩ := g
  have hlb := len_bound hP hcap a4 (fun p hp => Nat.le_trans (Nat.le_add_right _ _) (r2 p hp))
  have hlp : lgO P X p = fl p X := by unfold lgO; rw [if_pos hp]
  have hb1 : 14 * (fl p X).length + 14 ≤ 4000 := by have := fl_bound hp a4; omega
  have hlen : X.length ≤ 2280 - 1 + (fl P X).length := by
    rw [len_sm (B := P) (fun e he => (a4 e he).2.1)]
    simp only [sm]
    have h1 : sm (fun q => (fl q X).length) P + (285 - (fl p X).length) ≤ P * 285 := by
      have h2 := sm_diff (g := fun q => (fl q X).length) (g' := va_up (fun q => (fl q X).length) p 285) (k := p) P (fun i hi z => va_up_ne _ _ z) hp
      have h3 : sm (va_up (fun q => (fl q X).length) p 285) P ≤ P * 285 := sm_le P (fun i hi => by
        by_cases z : i = p
        · subst z; rw [va_up_self]; omega
        · rw [va_up_ne _ _ z]
          have h2 := fl_bound hi a4
          have h3 := r2 i hi
          show (fl i X).length ≤ 285
          omega)
      rw [va_up_self] at h2
      omega
    have := Nat.mul_le_mul_right 285 hP
    omega
  refine ev_post (e_writeLog (d := d) p kind key ee num of (by omega) hra (hok.2.2.2 hp) (by rw [tnO_0]) (by rw [hlp]; unfold bytesP at hN; omega) (by rw [unO_len]; omega) w) ?_
  rintro ⟨v, h'⟩ ⟨e1', hF, w'⟩
  rw [hlp] at e1' w'
  refine ⟨e1', hF, pr, mk, ?_, hpr, hmk, by rw [List.length_append]; omega⟩
  rw [lgO_log hp, fl_p hp, unO_snoc _ hsy]
  rw [show lgO P X (eF ((p, kind, key, ee, num, pay.length, of, pay) : En)) = fl p X from hlp]
  rw [show sz P ((p, kind, key, ee, num, pay.length, of, pay) : En) = 14 + pay.length by unfold sz; rw [if_neg (Nat.ne_of_lt hp)]]
  exact w'
end CE1
