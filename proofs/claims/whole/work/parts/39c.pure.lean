/-! PURE FACTS FOR BOTH SIDES -/
section PF
variable {d : Nat} {P cap tmo clk cut sy torn : Nat} {cl : Bool} {X : List En} {tE : En} {tp an : List Nat} {n nx : Nat} {ep tx bg ba lc de mq en : Nat → Nat} {ad : Nat → Int32} {la : List (Nat × Nat × Nat)} {T : TS}
theorem len_sm {B : Nat} (hX : ∀ e ∈ X, eF e ≤ B) : X.length = sm (fun p => (fl p X).length) (B + 1) := by
  induction X with
  | nil =>
    have : ∀ m, sm (fun p => (fl p []).length) m = 0 := by
      intro m
      induction m with
      | zero => rfl
      | succ m ih => simp only [sm, ih]; rfl
    rw [this]
    rfl
  | cons a l ih =>
    have h1 := ih (fun e he => hX e (List.mem_cons_of_mem _ he))
    have h2 := sm_diff (g := fun p => (fl p l).length) (g' := fun p => (fl p (a :: l)).length) (k := eF a) (B + 1) (fun i hi z => by
      simp only [fl, List.filter_cons]
      rw [if_neg (by simp; omega)]) (by have := hX a List.mem_cons_self; omega)
    have h3 : (fl (eF a) (a :: l)).length = (fl (eF a) l).length + 1 := by simp [fl]
    rw [List.length_cons]
    omega
theorem sm_le {g : Nat → Nat} {B : Nat} : ∀ m, (∀ i, i < m → g i ≤ B) → sm g m ≤ m * B := by
  intro m
  induction m with
  | zero => intro _; simp [sm]
  | succ m ih =>
    intro hh
    have h1 := ih (fun i hi => hh i (by omega))
    have h2 := hh m (by omega)
    simp only [sm]
    rw [Nat.add_mul]
    omega
theorem fl_bound {p : Nat} (hp : p < P) (hX : ∀ e ∈ X, okE P e) : 14 * (fl p X).length ≤ bytesP p X := by
  unfold bytesP
  have := len_off (es := fl p X) (fun e he => (hX e (fl_mem he).1).2.2.2 (by have := (fl_mem he).2; omega))
  omega
theorem len_bound (hP : P ≤ 8) (hcap : cap ≤ 4000) (hX : ∀ e ∈ X, okE P e) (hr : ∀ p, p < P → bytesP p X ≤ cap) : X.length ≤ 2280 + (fl P X).length := by
  rw [len_sm (B := P) (fun e he => (hX e he).2.1)]
  simp only [sm]
  have h1 : sm (fun p => (fl p X).length) P ≤ P * 285 := sm_le P (fun i hi => by
    have h2 := fl_bound hi hX
    have h3 := hr i hi
    show (fl i X).length ≤ 285
    omega)
  have := Nat.mul_le_mul_right 285 hP
  omega
theorem fte_lt {D : Nat → Bool} {τ : Nat → Nat} : ∀ j f, fte D τ j = some f → f < j ∧ D f = true ∧ τ f ≠ 0 := by
  intro j
  induction j with
  | zero => intro f hf; cases hf
  | succ j ih =>
    intro f hf
    simp only [fte] at hf
    by_cases y : (D j && !decide (τ j = 0)) = true
    · rw [if_pos y] at hf
      simp at y
      cases hg : fte D τ j with
      | none => rw [hg] at hf; cases hf; exact ⟨by omega, y.1, y.2⟩
      | some g =>
        rw [hg] at hf
        simp only at hf
        by_cases x : τ j < τ g
        · rw [if_pos x] at hf; cases hf; exact ⟨by omega, y.1, y.2⟩
        · rw [if_neg x] at hf; cases hf; have := ih _ hg; exact ⟨by omega, this.2⟩
    · rw [if_neg y] at hf
      have := ih _ hf
      exact ⟨by omega, this.2⟩
theorem fte_ok {D : Nat → Bool} {τ : Nat → Nat} {k : Nat} (h : fte D τ 32 = some k) : k < 32 ∧ D k = true ∧ τ k ≠ 0 := fte_lt 32 k h
theorem gt_due {clk bg tmo : Nat} (h1 : clk ≤ 1000000) (h2 : bg ≤ 1000001) (h3 : tmo ≤ 1000) : (nI clk - m1 bg ≤ nI tmo) ↔ ¬ (tmo + bg < clk + 1) := by
  have e1 : nI clk - m1 bg = nI (clk + 1) - nI bg := by
    unfold m1
    rw [← nI_add]
    rw [Int32.sub_eq_add_neg, Int32.neg_sub, Int32.sub_eq_add_neg (a := nI clk + nI 1), Int32.sub_eq_add_neg, Int32.add_assoc]
  rw [e1, Int32.le_iff_toInt_le, pk_sub_toInt (by omega) (by omega), nI_toInt (by omega)]
  omega
theorem oI_no {x : Option Nat} (hx : ∀ f, x = some f → f < 32) : oI x = -1 ↔ x = none := by
  cases x with
  | none => simp [oI]
  | some f =>
    have := hx f rfl
    simp only [oI]
    constructor
    · intro h
      exfalso
      have h1 := congrArg Int32.toInt h
      rw [nI_toInt (by omega)] at h1
      rw [show (-1 : Int32).toInt = -1 from by decide +kernel] at h1
      omega
    · intro h; cases h
theorem T_b (hv : pv P cap X) (cl : Bool) : ∀ k, k < 32 → (tS cl P X).2.1 k ≤ 1000 ∧ (tS cl P X).2.2.1 k ≤ 1000 ∧ (tS cl P X).2.2.2.1 k ≤ 1000001 := by
  intro k hk
  unfold tS
  cases cl with
  | true => exact ⟨Nat.zero_le _, Nat.zero_le _, Nat.zero_le _⟩
  | false =>
    obtain ⟨n, ep, tx, bg, ba, ad, lc, de, mq, nx, la, en, hT⟩ := told_ex P X
    have hg : GT P cap X (n, ep, tx, bg, ba, ad, lc, de, mq, nx, la, en) := hT ▸ pv_all hv
    have hr := hg.2.2.2.2.1
    have h2 := hg.1.2.1
    have h1 := hg.1.2.2.2.2.1 k hk
    rw [if_neg (by simp), hT]
    simp only
    omega
theorem refF_0 {x e : Int32} {kn' : Bool} (h : refF cl T x e kn' = nI 0) : cl = false ∧ kn' = true ∧ isK x = true ∧ T.2.1 (kn x) ≠ 0 ∧ m1 (T.2.1 (kn x)) = e := by
  unfold refF at h
  cases cl with
  | true => rw [if_pos rfl] at h; exact absurd h (by decide +kernel)
  | false =>
    simp only [Bool.false_eq_true, if_false] at h
    by_cases z : (kn' && rgs T x) = false
    · rw [if_pos z] at h; exact absurd h (by decide +kernel)
    · rw [if_neg z] at h
      have z2 : kn' = true ∧ rgs T x = true := by simpa using z
      have z3 := z2.2
      unfold rgs at z3
      rw [Bool.and_eq_true] at z3
      by_cases y : m1 (T.2.1 (kn x)) = e
      · exact ⟨rfl, z2.1, z3.1, by simpa using z3.2, y⟩
      · rw [if_neg y] at h; exact absurd h (by decide +kernel)
theorem isK_kn {x : Int32} (h : isK x = true) : kn x < 32 ∧ x = nI (kn x) := by
  have h1 : 0 ≤ x.toInt ∧ x.toInt < 32 := of_decide_eq_true h
  exact ⟨by unfold kn; omega, nI_ofInt h1.1⟩
theorem isPn_kn {x : Int32} (h : isPn P x = true) : kn x < P ∧ x = nI (kn x) := by
  have h1 : 0 ≤ x.toInt ∧ x.toInt < P := of_decide_eq_true h
  exact ⟨by unfold kn; omega, nI_ofInt h1.1⟩
theorem noDec_sm (hd : ∀ k, k < 32 → de k = 0) : sm (res tx de) 32 = 48 * cnt (fun k => !decide (tx k = 0)) 32 := by
  have : ∀ m, m ≤ 32 → sm (res tx de) m = 48 * cnt (fun k => !decide (tx k = 0)) m := by
    intro m
    induction m with
    | zero => intro _; rfl
    | succ m ih =>
      intro hm
      simp only [sm, cnt]
      rw [ih (by omega), Nat.mul_add]
      congr 1
      unfold res
      by_cases z : tx m = 0
      · simp [z]
      · rw [if_neg z, if_pos (hd m (by omega))]; simp [z]
  exact this 32 (Nat.le_refl _)
theorem dec_pv {k : Nat} {c : Nat} (hc : c ≤ 1) (hP : P ≤ 8) (hk : k < 32) (hv : pv P cap X) (ht : (told P X).2.2.1 k ≠ 0) (hd : (told P X).2.2.2.2.2.2.2.1 k = 0) : pv P cap (decX P X k c) ∧ (told P (decX P X k c)).2.2.1 k ≠ 0 ∧ (told P (decX P X k c)).2.2.2.2.2.2.2.1 k ≠ 0 := by
  obtain ⟨n, ep, tx, bg, ba, ad, lc, de, mq, nx, la, en, hT⟩ := told_ex P X
  rw [hT] at ht hd
  have h1 := pv_decide hP hv hT hk ht hd hc
  have h2 : decX P X k c = X ++ [(P, 4, k, ep k - 1, c, tx k - 1, 0, [])] := by unfold decX; rw [hT]
  rw [h2, h1.2]
  exact ⟨h1.1, ht, by simp only [va_up_self]; omega⟩
theorem fin_pv {k : Nat} {c : Nat} (hc : c ≤ 1) (hP : P ≤ 8) (hk : k < 32) (hv : pv P cap X) (hn : noDec P X) (ht : (told P X).2.2.1 k ≠ 0) : pv P cap (finX P (decX P X k c) k) ∧ noDec P (finX P (decX P X k c) k) ∧ (told P (finX P (decX P X k c) k)).2.2.1 k = 0 ∧ (told P (finX P (decX P X k c) k)).2.1 = (told P X).2.1 ∧ 16 * (told P (finX P (decX P X k c) k)).1 + 16 + sm (res (told P (finX P (decX P X k c) k)).2.2.1 (told P (finX P (decX P X k c) k)).2.2.2.2.2.2.2.1) 32 ≤ 16000 := by
  obtain ⟨n, ep, tx, bg, ba, ad, lc, de, mq, nx, la, en, hT⟩ := told_ex P X
  unfold noDec at hn
  rw [hT] at hn ht
  obtain ⟨h1, h2, h3⟩ := end_ok hc hP hv hT hk ht (hn k hk)
  unfold noDec
  rw [h2, hT]
  exact ⟨h1, hn, va_up_self _ _ _, rfl, h3⟩
theorem regX_pv {k : Nat} (hP : P ≤ 8) (hk : k < 32) (hv : pv P cap X) (ht : (told P X).2.2.1 k = 0) (hr : 16 * (told P X).1 + 16 + sm (res (told P X).2.2.1 (told P X).2.2.2.2.2.2.2.1) 32 ≤ 16000) : pv P cap (regX P X k) ∧ (told P (regX P X k)).2.2.2.2.2.2.2.1 = (told P X).2.2.2.2.2.2.2.1 ∧ (told P (regX P X k)).2.1 k = (told P X).2.1 k + 1 := by
  obtain ⟨n, ep, tx, bg, ba, ad, lc, de, mq, nx, la, en, hT⟩ := told_ex P X
  rw [hT] at ht hr
  have h1 := pv_reg hP hv hT hk ht hr
  have h2 : regX P X k = X ++ [(P, 0, k, ep k, 0, 0, 0, [])] := by unfold regX; rw [hT]
  rw [h2, h1.2, hT]
  exact ⟨h1.1, rfl, va_up_self _ _ _⟩
theorem tS_f : tS false P X = told P X := rfl
theorem told_n (hv : pv P cap X) : (told P X).1 = (fl P X).length := by
  obtain ⟨n, ep, tx, bg, ba, ad, lc, de, mq, nx, la, en, hT⟩ := told_ex P X
  have hg : GT P cap X (n, ep, tx, bg, ba, ad, lc, de, mq, nx, la, en) := hT ▸ pv_all hv
  rw [hT]
  exact hg.1.1
theorem room_sm (hn : noDec P X) {more : Nat} (hb : bkF (told P X) more = true) : 16 * (told P X).1 + 16 + 48 * more + sm (res (told P X).2.2.1 (told P X).2.2.2.2.2.2.2.1) 32 ≤ 16000 := by
  have h1 : 16 * (told P X).1 + 16 + 48 * (cntO (told P X) + more) ≤ 16000 := of_decide_eq_true hb
  rw [noDec_sm hn]
  unfold cntO at h1
  omega
theorem isPlF_kn {g x : Int32} (h : isPlF P g x = true) : kn g < 8 ∧ g = nI (kn g) ∧ kn x < P ∧ x = nI (kn x) := by
  unfold isPlF at h
  rw [Bool.and_eq_true] at h
  have h1 : 0 ≤ g.toInt ∧ g.toInt < 8 := of_decide_eq_true h.1
  exact ⟨by unfold kn; omega, nI_ofInt h1.1, isPn_kn h.2⟩
theorem le_lit {x : Int32} {n : Nat} (hn : n < 2 ^ 31) : x ≤ nI n ↔ x.toInt ≤ n := by rw [Int32.le_iff_toInt_le, nI_toInt hn]
theorem lt_lit {x : Int32} {n : Nat} (hn : n < 2 ^ 31) : nI n < x ↔ (n : Int) < x.toInt := by rw [Int32.lt_iff_toInt_lt, nI_toInt hn]
theorem lt_lit' {x : Int32} {n : Nat} (hn : n < 2 ^ 31) : x < nI n ↔ x.toInt < n := by rw [Int32.lt_iff_toInt_lt, nI_toInt hn]
theorem ff_lt {Q : Nat → Bool} {n : Nat} : ∀ m o, m ≤ n → ff Q n m = some o → o < n := by
  intro m
  induction m with
  | zero => intro o _ h; cases h
  | succ m ih =>
    intro o hm h
    unfold ff at h
    split at h
    · cases h; omega
    · exact ih o (by omega) h
theorem offF_lt {L : List En} {m o : Nat} {c : Bool} (h : offF L m c = some o) : o < L.length := by
  unfold offF at h
  split at h
  · have := ff_lt _ o (by omega) h
    have := stb_le L
    omega
  · exact ff_lt _ o (by omega) h
theorem gs_swd {h : ix_H} {S : ix_S} {q : ix_M} {Q : ix_O → Prop} {pc n : Nat} {ls : ix_L} {r : List Value} {dd lo hi : Int} {offs : Array Int} {x : Int32} (t : Nat) (hat : ix_at q.2.2.2.2.2.2.2.1 pc = some (.tableswitch dd lo hi offs, n)) (hx : x.toInt < lo ∨ hi < x.toInt) (hj : ix_jmp pc dd = some t) (k : gs S d q (t, ls, r, h) Q) : gs S d q (pc, ls, .int x :: r, h) Q := by
  refine gs_at hat ?_ k
  simp only [ix_exec]
  rw [if_pos hx]
  unfold ix_goto
  rw [hj]
theorem gs_rem {h : ix_H} {S : ix_S} {q : ix_M} {Q : ix_O → Prop} {pc n : Nat} {ls : ix_L} {r : List Value} {x y : Int32} (pc' : Nat) (hat : ix_at q.2.2.2.2.2.2.2.1 pc = some (.irem, n)) (hy : ¬ y = 0) (hp : pc + 1 = pc') (k : gs S d q (pc', ls, .int (x - x / y * y) :: r, h) Q) : gs S d q (pc, ls, .int y :: .int x :: r, h) Q := by
  subst hp
  refine gs_at hat ?_ k
  simp only [ix_exec, ix_pure, hy, if_false]
  rfl
theorem shr_low (b : BitVec 64) {s : Nat} (hs : s ≤ 56) : ((b.sshiftRight s).setWidth 32).setWidth 8 = ((b >>> s).setWidth 32).setWidth 8 := by
  apply BitVec.eq_of_getLsbD_eq
  intro i hi
  simp only [BitVec.getLsbD_setWidth, BitVec.getLsbD_sshiftRight, BitVec.getLsbD_ushiftRight]
  have h1 : s + i < 64 := by omega
  simp [h1, show i < 32 by omega, hi, show i < 64 by omega]
theorem i8_32 (x : Int8) : x.toInt32.toInt8 = x := by simp
theorem fby_ref (a b : Int64) {j : Nat} (hj : j < 16) : (((if j < 8 then a else b) >>> ((nI 8 * nI (j % 8)).toInt64 &&& 63)).toInt32.toInt8.toInt32).toInt8.toInt32 = sg (fby a b j) := by
  unfold fby
  rw [sg_low, i8_32]
  congr 1
  generalize (if j < 8 then a else b) = w
  apply Int8.toBitVec_inj.mp
  have key : ∀ j, j < 16 → ((nI 8 * nI (j % 8)).toInt64 &&& 63).toBitVec.smod 64 = BitVec.ofNat 64 (8 * (j % 8)) ∧ ((nI 8 * (nI j &&& nI 7)).toInt64.toUInt64 &&& Int64.toUInt64 63).toBitVec % 64 = BitVec.ofNat 64 (8 * (j % 8)) := by decide +kernel
  obtain ⟨k1, k2⟩ := key j hj
  have h1 := shr_low w.toBitVec (s := 8 * (j % 8)) (by omega)
  simp only [Int32.toBitVec_toInt8, Int64.toBitVec_toInt32, Int64.toBitVec_shiftRight, UInt64.toBitVec_toInt64, UInt64.toBitVec_shiftRight, Int64.toBitVec_toUInt64]
  rw [k1, k2]
  have e1 : (BitVec.ofNat 64 (8 * (j % 8))).toNat = 8 * (j % 8) := by rw [BitVec.toNat_ofNat]; omega
  rw [BitVec.sshiftRight_eq', BitVec.ushiftRight_eq', e1]
  rw [BitVec.signExtend_eq_setWidth_of_le _ (by decide), BitVec.signExtend_eq_setWidth_of_le _ (by decide), BitVec.signExtend_eq_setWidth_of_le _ (by decide), BitVec.signExtend_eq_setWidth_of_le _ (by decide)]
  exact h1
end PF
