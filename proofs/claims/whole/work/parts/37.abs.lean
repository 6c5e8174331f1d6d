/-! WHAT THE BOOK TELLS -/
/-- an entry as the reference may hold it; P is the book's file -/
def okM (P : Nat) (e : En) : Prop := eF e ≤ 8 ∧ eK e ≤ 6 ∧ eY e < 32 ∧ eE e < 65536 ∧ eA e < 2 ^ 31 ∧ eB e < 2 ^ 31 ∧ eO e ≤ 1100 ∧ (eF e ≠ P → eB e = (eP e).length ∧ eB e ≤ 40 ∧ ∀ x ∈ eP e, x < 256) ∧ (eP e).length ≤ 40
/-- bytes of an entry -/
def sz (P : Nat) (e : En) : Nat := if eF e = P then 16 else 14 + eB e
theorem sz_le {P : Nat} {e : En} (h : okM P e) : sz P e ≤ 54 := by
  unfold sz
  split
  · omega
  · rename_i z
    have := (h.2.2.2.2.2.2.2.1 z).2.1
    omega
def sumOn (g : En → Nat) (l : List En) : Nat := (l.map g).sum
theorem sumOn_snoc (g : En → Nat) (l : List En) (e : En) : sumOn g (l ++ [e]) = sumOn g l + g e := by simp [sumOn]
theorem sumOn_le {g : En → Nat} {B : Nat} {l : List En} (h : ∀ e ∈ l, g e ≤ B) : sumOn g l ≤ l.length * B := by
  induction l with
  | nil => simp [sumOn]
  | cons a l ih =>
    have h1 := ih (fun x hx => h x (List.mem_cons_of_mem _ hx))
    have h2 := h a List.mem_cons_self
    simp only [sumOn, List.map_cons, List.sum_cons, List.length_cons] at h1 ⊢
    rw [Nat.add_mul, Nat.one_mul]
    omega
theorem take_snocE {l : List En} {j : Nat} (h : j < l.length) : l.take (j + 1) = l.take j ++ [l.getD j en0] := by
  rw [List.take_add_one]
  simp [List.getD, List.getElem?_eq_getElem h]
theorem drop_getD {l : List En} {i j : Nat} : (l.drop i).getD j en0 = l.getD (i + j) en0 := by simp [List.getD, List.getElem?_drop]
/-- n; for each key: epoch + 1, transaction + 1, began + 1, where it began, added, laters, decision + 1; marks + 1; next; the laters; how each transaction ended -/
abbrev TS : Type := Nat × (Nat → Nat) × (Nat → Nat) × (Nat → Nat) × (Nat → Nat) × (Nat → Int32) × (Nat → Nat) × (Nat → Nat) × (Nat → Nat) × Nat × List (Nat × Nat × Nat) × (Nat → Nat)
def T0 : TS := (0, fun _ => 0, fun _ => 0, fun _ => 0, fun _ => 0, fun _ => nI 0, fun _ => 0, fun _ => 0, fun _ => 0, 0, [], fun _ => 0)
def mkOf (la : List (Nat × Nat × Nat)) (t : Nat) (mq : Nat → Nat) : Nat → Nat := la.foldl (fun m x => if x.1 = t then va_up m x.2.1 (x.2.2 + 1) else m) mq
def tell : TS → En → TS
  | (n, ep, tx, bg, ba, ad, lc, de, mq, nx, la, en), (_, K, k, E, a, b, _, _) =>
    match K with
    | 0 => (n + 1, va_up ep k (E + 1), tx, bg, ba, ad, lc, de, mq, nx, la, en)
    | 1 => (n + 1, ep, va_up tx k (b + 1), va_up bg k (a + 1), va_up ba k n, ad, lc, de, mq, b + 1, la, va_up en b 0)
    | 2 => (n + 1, ep, tx, bg, ba, va_up ad k (ad k ||| (nI 1 <<< (nI a &&& 31))), lc, de, mq, nx, la, en)
    | 3 => (n + 1, ep, tx, bg, ba, ad, va_up lc k (lc k + 1), de, mq, nx, la ++ [(tx k - 1, a, b)], en)
    | 4 => (n + 1, ep, tx, bg, ba, ad, lc, va_up de k (a + 1), mq, nx, la, en)
    | 5 => (n + 1, ep, va_up tx k 0, va_up bg k 0, ba, va_up ad k (nI 0), va_up lc k 0, va_up de k 0, (if de k = 2 then mkOf la (tx k - 1) mq else mq), nx, la, va_up en (tx k - 1) (if de k = 2 then 1 else 2))
    | _ => (n + 1, ep, tx, bg, ba, ad, lc, de, va_up mq a (b + 1), nx, la, en)
def told (P : Nat) (X : List En) : TS := X.foldl (fun T e => if eF e = P then tell T e else T) T0
theorem told_snoc (P : Nat) (X : List En) (e : En) : told P (X ++ [e]) = if eF e = P then tell (told P X) e else told P X := by simp [told]
def fl (p : Nat) (X : List En) : List En := X.filter (fun e => decide (eF e = p))
theorem fl_snoc (p : Nat) (X : List En) (e : En) : fl p (X ++ [e]) = if eF e = p then fl p X ++ [e] else fl p X := by
  unfold fl
  rw [List.filter_append]
  by_cases z : eF e = p <;> simp [z]
theorem fl_mem {p : Nat} {X : List En} {e : En} (h : e ∈ fl p X) : e ∈ X ∧ eF e = p := by
  unfold fl at h
  simpa using h
def sm (g : Nat → Nat) : Nat → Nat
  | 0 => 0
  | n + 1 => sm g n + g n
theorem sm_diff {g g' : Nat → Nat} {k : Nat} : ∀ (n : Nat), (∀ i, i < n → i ≠ k → g' i = g i) → k < n → sm g' n + g k = sm g n + g' k := by
  intro n
  induction n with
  | zero => intro _ h; omega
  | succ n ih =>
    intro hd hk
    simp only [sm]
    by_cases e : k = n
    · subst e
      have : ∀ m, m ≤ k → sm g' m = sm g m := by
        intro m
        induction m with
        | zero => intro _; rfl
        | succ m ih2 =>
          intro hm
          simp only [sm]
          rw [ih2 (by omega), hd m (by omega) (by omega)]
      rw [this k (Nat.le_refl _)]
      omega
    · have h1 := ih (fun i hi => hd i (by omega)) (by omega)
      rw [hd n (by omega) (by omega)]
      omega
theorem sm_same {g g' : Nat → Nat} : ∀ (n : Nat), (∀ i, i < n → g' i = g i) → sm g' n = sm g n := by
  intro n
  induction n with
  | zero => intro _; rfl
  | succ n ih =>
    intro hd
    simp only [sm]
    rw [ih (fun i hi => hd i (by omega)), hd n (by omega)]
theorem cnt_sm (f : Nat → Bool) (n : Nat) : cnt f n = sm (fun i => if f i then 1 else 0) n := by
  induction n with
  | zero => rfl
  | succ n ih => simp only [cnt, sm, ih]
theorem cnt_same {f f' : Nat → Bool} {n : Nat} (h : ∀ i, i < n → f' i = f i) : cnt f' n = cnt f n := by
  rw [cnt_sm, cnt_sm]
  exact sm_same n (fun i hi => by rw [h i hi])
theorem cnt_diff {f f' : Nat → Bool} {k n : Nat} (h : ∀ i, i < n → i ≠ k → f' i = f i) (hk : k < n) : cnt f' n + (if f k then 1 else 0) = cnt f n + (if f' k then 1 else 0) := by
  rw [cnt_sm, cnt_sm]
  exact sm_diff (g := fun i => if f i = true then 1 else 0) (g' := fun i => if f' i = true then 1 else 0) n (fun i hi hn => by simp only [h i hi hn]) hk
/-! bits of a mask -/
theorem and1 (x : Int32) : (x &&& nI 1 = nI 1) ↔ x.toBitVec.getLsbD 0 = true := by
  constructor
  · intro h
    have := congrArg (fun z => z.toBitVec.getLsbD 0) h
    simp only [Int32.toBitVec_and, BitVec.getLsbD_and] at this
    rw [show (nI 1).toBitVec.getLsbD 0 = true from by decide +kernel] at this
    simpa using this
  · intro h
    apply i32_ext
    rw [Int32.toBitVec_and]
    apply BitVec.eq_of_getLsbD_eq
    intro i hi
    rw [BitVec.getLsbD_and]
    by_cases z : i = 0
    · subst z
      rw [h, Bool.true_and]
    · have : (nI 1).toBitVec.getLsbD i = false := by
        rw [nI_bv, BitVec.getLsbD_ofNat]
        have : Nat.testBit 1 i = false := by
          rw [show (1 : Nat) = 2 ^ 0 from rfl, Nat.testBit_two_pow]
          simp
          omega
        simp [this]
      rw [this, Bool.and_false]
theorem sh_lit {q : Nat} (hq : q < 8) : (nI q &&& 31) = nI q := by
  rcases (by omega : q = 0 ∨ q = 1 ∨ q = 2 ∨ q = 3 ∨ q = 4 ∨ q = 5 ∨ q = 6 ∨ q = 7) with z | z | z | z | z | z | z | z <;> subst z <;> decide +kernel
theorem hasB_bit (m : Int32) {q : Nat} (hq : q < 8) : hasB m q = m.toBitVec.getLsbD q := by
  have : hasB m q = true ↔ m.toBitVec.getLsbD q = true := by
    unfold hasB
    rw [decide_eq_true_eq, and1, Int32.toBitVec_shiftRight]
    rcases (by omega : q = 0 ∨ q = 1 ∨ q = 2 ∨ q = 3 ∨ q = 4 ∨ q = 5 ∨ q = 6 ∨ q = 7) with z | z | z | z | z | z | z | z <;> subst z
    · rw [show ((nI 0 &&& 31 : Int32).toBitVec.smod 32) = 0#32 from by decide +kernel]; simp [BitVec.getLsbD_sshiftRight, BitVec.getElem_sshiftRight]
    · rw [show ((nI 1 &&& 31 : Int32).toBitVec.smod 32) = 1#32 from by decide +kernel]; simp [BitVec.getLsbD_sshiftRight, BitVec.getElem_sshiftRight]
    · rw [show ((nI 2 &&& 31 : Int32).toBitVec.smod 32) = 2#32 from by decide +kernel]; simp [BitVec.getLsbD_sshiftRight, BitVec.getElem_sshiftRight]
    · rw [show ((nI 3 &&& 31 : Int32).toBitVec.smod 32) = 3#32 from by decide +kernel]; simp [BitVec.getLsbD_sshiftRight, BitVec.getElem_sshiftRight]
    · rw [show ((nI 4 &&& 31 : Int32).toBitVec.smod 32) = 4#32 from by decide +kernel]; simp [BitVec.getLsbD_sshiftRight, BitVec.getElem_sshiftRight]
    · rw [show ((nI 5 &&& 31 : Int32).toBitVec.smod 32) = 5#32 from by decide +kernel]; simp [BitVec.getLsbD_sshiftRight, BitVec.getElem_sshiftRight]
    · rw [show ((nI 6 &&& 31 : Int32).toBitVec.smod 32) = 6#32 from by decide +kernel]; simp [BitVec.getLsbD_sshiftRight, BitVec.getElem_sshiftRight]
    · rw [show ((nI 7 &&& 31 : Int32).toBitVec.smod 32) = 7#32 from by decide +kernel]; simp [BitVec.getLsbD_sshiftRight, BitVec.getElem_sshiftRight]
  cases h : hasB m q <;> cases h2 : m.toBitVec.getLsbD q <;> simp_all
theorem hasB_or (m : Int32) {p q : Nat} (hp : p < 8) (hq : q < 8) : hasB (m ||| (nI 1 <<< (nI p &&& 31))) q = (hasB m q || decide (p = q)) := by
  rw [hasB_bit _ hq, hasB_bit _ hq, Int32.toBitVec_or, BitVec.getLsbD_or]
  congr 1
  have : ∀ p, p < 8 → ∀ q, q < 8 → (nI 1 <<< (nI p &&& 31)).toBitVec.getLsbD q = decide (p = q) := by decide +kernel
  exact this p hp q hq
theorem hasB_0 {q : Nat} (hq : q < 8) : hasB (nI 0) q = false := by
  have : ∀ q, q < 8 → hasB (nI 0) q = false := by decide +kernel
  exact this q hq
/-! WHAT HOLDS OF A ROW OF ENTRIES -/
def res (tx de : Nat → Nat) (k : Nat) : Nat := if tx k = 0 then 0 else if de k = 0 then 48 else 32
def hEnd (p : Nat) (X : List En) (t : Nat) : Bool := (fl p X).any (endOf t)
def okE (P : Nat) (e : En) : Prop := okM P e ∧ eF e ≤ P ∧ (eF e = P → okB e) ∧ (eF e < P → okP e)
def gA (P : Nat) (X : List En) : TS → Prop
  | (n, ep, tx, bg, ba, ad, lc, de, mq, nx, la, en) => n = (fl P X).length ∧ nx ≤ n ∧ la.length ≤ n ∧ (∀ e ∈ X, okE P e) ∧
    (∀ k, k < 32 → ep k ≤ n ∧ tx k ≤ nx ∧ de k ≤ 2 ∧ bg k ≤ 1000001 ∧ lc k ≤ n ∧ (tx k ≠ 0 → ep k ≠ 0 ∧ bg k ≠ 0 ∧ ba k < n) ∧ (tx k = 0 → bg k = 0 ∧ ad k = nI 0 ∧ lc k = 0 ∧ de k = 0)) ∧
    (∀ k k', k < 32 → k' < 32 → tx k = tx k' → tx k ≠ 0 → k = k') ∧ (∀ x ∈ la, x.1 < nx ∧ x.2.1 < 64 ∧ x.2.2 < 2 ^ 31) ∧ (∀ i, i < 64 → mq i ≤ 2 ^ 31)
def latE (bk : List En) (k : Nat) : List (Nat × Nat) := (bk.filter (fun e => decide (eK e = 3 ∧ eY e = k))).map (fun e => (eA e, eB e))
def latT (la : List (Nat × Nat × Nat)) (t : Nat) : List (Nat × Nat) := (la.filter (fun x => decide (x.1 = t))).map (fun x => x.2)
def gL (P : Nat) (X : List En) : TS → Prop
  | (_, _, tx, _, ba, _, lc, _, _, _, la, _) => ∀ k, k < 32 → tx k ≠ 0 → latT la (tx k - 1) = latE ((fl P X).drop (ba k)) k ∧ lc k = (latT la (tx k - 1)).length
def gE (P : Nat) (X : List En) : TS → Prop
  | (_, _, tx, _, _, _, _, de, _, nx, _, en) => (∀ e ∈ X, eF e ≠ P → 2 ≤ eK e → eA e < nx) ∧ (∀ k, k < 32 → tx k ≠ 0 → en (tx k - 1) = 0) ∧ (∀ k, k < 32 → tx k ≠ 0 → de k = 0 → ∀ p, p < P → hEnd p X (tx k - 1) = false)
def gFe (p : Nat) (X : List En) (tx : Nat → Nat) (ad : Nat → Int32) (de : Nat → Nat) (nx : Nat) (en : Nat → Nat) (o : Nat) : Prop :=
  ∃ t, eO ((fl p X).getD o en0) = t + 1 ∧ t < nx ∧ (∀ k, k < 32 → tx k = t + 1 → k = eY ((fl p X).getD o en0)) ∧
    (tx (eY ((fl p X).getD o en0)) = t + 1 → en t = 0 ∧ hasB (ad (eY ((fl p X).getD o en0))) p = true ∧ fateFrom ((fl p X).drop o) (eY ((fl p X).getD o en0)) = (if hEnd p X t then some (4 - de (eY ((fl p X).getD o en0))) else none)) ∧
    (tx (eY ((fl p X).getD o en0)) ≠ t + 1 → en t ≠ 0 ∧ fateFrom ((fl p X).drop o) (eY ((fl p X).getD o en0)) = some (en t + 1))
def gF (P : Nat) (X : List En) : TS → Prop
  | (_, _, tx, _, _, ad, _, de, _, nx, _, en) => ∀ p, p < P → ∀ o, o < (fl p X).length → eK ((fl p X).getD o en0) = 1 → gFe p X tx ad de nx en o
def bytesP (p : Nat) (X : List En) : Nat := ((fl p X).flatMap encP).length
def dueE (p : Nat) (X : List En) (tx : Nat → Nat) (ad : Nat → Int32) (k : Nat) : Bool := hasB (ad k) p && !hEnd p X (tx k - 1)
def gR (P cap : Nat) (X : List En) : TS → Prop
  | (n, _, tx, _, _, ad, _, de, _, _, _, _) => 16 * n + sm (res tx de) 32 ≤ 16000 ∧ ∀ p, p < P → bytesP p X + 14 * cnt (dueE p X tx ad) 32 ≤ cap
def GT (P cap : Nat) (X : List En) (T : TS) : Prop := gA P X T ∧ gL P X T ∧ gE P X T ∧ gF P X T ∧ gR P cap X T
def pv (P cap : Nat) (X : List En) : Prop := ∀ m, m ≤ X.length → GT P cap (X.take m) (told P (X.take m))
theorem pv_snoc {P cap : Nat} {X : List En} {e : En} (h : pv P cap X) (hg : GT P cap (X ++ [e]) (told P (X ++ [e]))) : pv P cap (X ++ [e]) := by
  intro m hm
  by_cases z : m ≤ X.length
  · rw [List.take_append_of_le_length z]
    exact h m z
  · rw [List.take_of_length_le (by rw [List.length_append] at hm ⊢; simp at hm ⊢; omega)]
    exact hg
theorem pv_take {P cap : Nat} {X : List En} (h : pv P cap X) (j : Nat) : pv P cap (X.take j) := by
  intro m hm
  rw [List.take_take]
  exact h _ (by rw [List.length_take] at hm; omega)
theorem pv_all {P cap : Nat} {X : List En} (h : pv P cap X) : GT P cap X (told P X) := by
  have := h X.length (Nat.le_refl _)
  rwa [List.take_length] at this
