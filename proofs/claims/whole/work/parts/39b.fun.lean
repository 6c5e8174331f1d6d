/-! THE HOUSE AS A FUNCTION: state, what each call answers and leaves -/
/-- partitions, capacity, timeout, clock, closed, cut, entries, synced, torn, the torn entry, tape, answer -/
abbrev SS : Type := Nat × Nat × Nat × Nat × Bool × Nat × List En × Nat × Nat × En × List Nat × List Nat
def tS (cl : Bool) (P : Nat) (X : List En) : TS := if cl then T0 else told P X
def m1 (n : Nat) : Int32 := nI n - nI 1
theorem m1_0 : m1 0 = -1 := by decide +kernel
theorem m1_s (n : Nat) : m1 (n + 1) = nI n := m1_succ n
theorem m1_p {n : Nat} (h : n ≠ 0) : m1 n = nI (n - 1) := by
  obtain ⟨j, rfl⟩ : ∃ j, n = j + 1 := ⟨n - 1, by omega⟩
  exact m1_s j
theorem m1_inj {a b : Nat} (ha : a < 2 ^ 31) (hb : b < 2 ^ 31) : m1 a = m1 b ↔ a = b := by
  constructor
  · intro h
    have h1 := congrArg (fun z => z + nI 1) h
    simp only [m1, Int32.sub_add_cancel] at h1
    exact (nI_eq ha hb).mp h1
  · intro h; rw [h]
theorem m1_no {n : Nat} (h : n < 2 ^ 31) : m1 n = -1 ↔ n = 0 := by rw [← m1_0, m1_inj h (by omega)]
theorem m1_nI {a b : Nat} (ha : a < 2 ^ 31) (hb : b + 1 < 2 ^ 31) : m1 a = nI b ↔ a = b + 1 := by rw [← m1_s, m1_inj ha hb]
def kn (x : Int32) : Nat := x.toInt.toNat
def rgs (T : TS) (x : Int32) : Bool := isK x && !decide (T.2.1 (kn x) = 0)
def refF (cl : Bool) (T : TS) (x e : Int32) (known : Bool) : Int32 := if cl then -1 else if (known && rgs T x) = false then -2 else if m1 (T.2.1 (kn x)) = e then nI 0 else -3
def cntO (T : TS) : Nat := cnt (fun k => !decide (T.2.2.1 k = 0)) 32
def cntA (T : TS) (p : Nat) : Nat := cnt (fun k => hasB (T.2.2.2.2.2.1 k) p) 32
def cntR (T : TS) : Nat := cnt (fun k => !decide (T.2.1 k = 0)) 32
def bkF (T : TS) (more : Nat) : Bool := decide (16 * T.1 + 16 + 48 * (cntO T + more) ≤ 16000)
def isPn (P : Nat) (x : Int32) : Bool := decide (0 ≤ x.toInt ∧ x.toInt < P)
def isPlF (P : Nat) (g x : Int32) : Bool := decide (0 ≤ g.toInt ∧ g.toInt < 8) && isPn P x
def szF (P f : Nat) (e : En) : Nat := if eF e = f then sz P e else 0
def tnO (P torn : Nat) (tE : En) : Nat → List Nat := fun p => if p < P ∧ eF tE = p then (encP tE).take torn else []
def btO (P torn : Nat) (tE : En) : List Nat := if eF tE = P then (encB tE).take torn else []
def bytesF (P torn : Nat) (tE : En) (X : List En) (f : Nat) : List Nat := if f < P then (fl f X).flatMap encP ++ tnO P torn tE f else (fl P X).flatMap encB ++ btO P torn tE
def crp (P : Nat) : List En → Nat → Nat × Nat
  | [], m => (0, m)
  | e :: l, m => if sz P e ≤ m then ((crp P l (m - sz P e)).1 + 1, (crp P l (m - sz P e)).2) else (0, m)
def F_format : SS → Int32 → Int32 → Int32 → Int32 × SS
  | (P, cap, tmo, clk, cl, cut, X, sy, torn, tE, tp, an), p, c, t => if 1 ≤ p.toInt ∧ p.toInt ≤ 8 ∧ 100 ≤ c.toInt ∧ c.toInt ≤ 4000 ∧ 1 ≤ t.toInt ∧ t.toInt ≤ 1000 then (nI 1, (kn p, kn c, kn t, 0, false, 0, [], 0, 0, tE, tp, [])) else (nI 0, (P, cap, tmo, clk, cl, cut, X, sy, torn, tE, tp, an))
def F_register : SS → Int32 → Int32 × SS
  | (P, cap, tmo, clk, cl, cut, X, sy, torn, tE, tp, an), x =>
    if cl then (-1, (P, cap, tmo, clk, cl, cut, X, sy, torn, tE, tp, an)) else
    if isK x = false then (-2, (P, cap, tmo, clk, cl, cut, X, sy, torn, tE, tp, an)) else
    if (told P X).2.2.1 (kn x) ≠ 0 then (nI ((told P X).2.1 (kn x)), (P, cap, tmo, clk, cl, cut, regX P (finX P (decX P X (kn x) 0) (kn x)) (kn x), sy, torn, tE, tp, an)) else
    if bkF (told P X) 0 = false then (-8, (P, cap, tmo, clk, cl, cut, X, sy, torn, tE, tp, an)) else
    (nI ((told P X).2.1 (kn x)), (P, cap, tmo, clk, cl, cut, regX P X (kn x), sy, torn, tE, tp, an))
def F_begin : SS → Int32 → Int32 → Int32 × SS
  | (P, cap, tmo, clk, cl, cut, X, sy, torn, tE, tp, an), x, e =>
    if refF cl (tS cl P X) x e true ≠ nI 0 then (refF cl (tS cl P X) x e true, (P, cap, tmo, clk, cl, cut, X, sy, torn, tE, tp, an)) else
    if (told P X).2.2.1 (kn x) ≠ 0 then (-4, (P, cap, tmo, clk, cl, cut, X, sy, torn, tE, tp, an)) else
    if bkF (told P X) 1 = false then (-8, (P, cap, tmo, clk, cl, cut, X, sy, torn, tE, tp, an)) else
    (nI (told P X).2.2.2.2.2.2.2.2.2.1, (P, cap, tmo, clk, cl, cut, X ++ [(P, 1, kn x, (told P X).2.1 (kn x) - 1, clk, (told P X).2.2.2.2.2.2.2.2.2.1, 0, [])], sy, torn, tE, tp, an))
def F_end : SS → Int32 → Int32 → Bool → Int32 × SS
  | (P, cap, tmo, clk, cl, cut, X, sy, torn, tE, tp, an), x, e, c =>
    if refF cl (tS cl P X) x e true ≠ nI 0 then (refF cl (tS cl P X) x e true, (P, cap, tmo, clk, cl, cut, X, sy, torn, tE, tp, an)) else
    if (told P X).2.2.1 (kn x) = 0 then (-5, (P, cap, tmo, clk, cl, cut, X, sy, torn, tE, tp, an)) else
    (nI 0, (P, cap, tmo, clk, cl, cut, finX P (decX P X (kn x) (if c then 1 else 0)) (kn x), sy, torn, tE, tp, an))
def F_later : SS → Int32 → Int32 → Int32 → Int32 → Int32 → Int32 × SS
  | (P, cap, tmo, clk, cl, cut, X, sy, torn, tE, tp, an), x, e, g, p, o =>
    if refF cl (tS cl P X) x e (isPlF P g p && decide (0 ≤ o.toInt)) ≠ nI 0 then (refF cl (tS cl P X) x e (isPlF P g p && decide (0 ≤ o.toInt)), (P, cap, tmo, clk, cl, cut, X, sy, torn, tE, tp, an)) else
    if (told P X).2.2.1 (kn x) = 0 then (-5, (P, cap, tmo, clk, cl, cut, X, sy, torn, tE, tp, an)) else
    if bkF (told P X) 0 = false then (-8, (P, cap, tmo, clk, cl, cut, X, sy, torn, tE, tp, an)) else
    (nI 0, (P, cap, tmo, clk, cl, cut, X ++ [(P, 3, kn x, (told P X).2.1 (kn x) - 1, 8 * kn g + kn p, kn o, 0, [])], sy, torn, tE, tp, an))
def F_mark : SS → Int32 → Int32 → Int32 → Int32 × SS
  | (P, cap, tmo, clk, cl, cut, X, sy, torn, tE, tp, an), g, p, o =>
    if cl then (-1, (P, cap, tmo, clk, cl, cut, X, sy, torn, tE, tp, an)) else
    if (isPlF P g p && decide (0 ≤ o.toInt)) = false then (-2, (P, cap, tmo, clk, cl, cut, X, sy, torn, tE, tp, an)) else
    if bkF (told P X) 0 = false then (-8, (P, cap, tmo, clk, cl, cut, X, sy, torn, tE, tp, an)) else
    (nI 0, (P, cap, tmo, clk, cl, cut, X ++ [(P, 6, 0, 0, 8 * kn g + kn p, kn o, 0, [])], sy, torn, tE, tp, an))
def F_marked : SS → Int32 → Int32 → Int32
  | (P, _, _, _, cl, _, X, _, _, _, _, _), g, p => if (cl || !isPlF P g p) = true then -1 else m1 ((told P X).2.2.2.2.2.2.2.2.1 (8 * kn g + kn p))
def F_tick : SS → Int32 → Int32 × SS
  | (P, cap, tmo, clk, cl, cut, X, sy, torn, tE, tp, an), n =>
    if n.toInt < 0 ∨ 1000 < n.toInt ∨ 1000000 < clk + kn n then (-2, (P, cap, tmo, clk, cl, cut, X, sy, torn, tE, tp, an)) else
    if cl then (nI 0, (P, cap, tmo, clk + kn n, cl, cut, X, sy, torn, tE, tp, an)) else
    (nI (ovr (txF P) (dueT P tmo (clk + kn n)) (stepT P) 32 X).1, (P, cap, tmo, clk + kn n, cl, cut, (ovr (txF P) (dueT P tmo (clk + kn n)) (stepT P) 32 X).2, sy, torn, tE, tp, an))
def offF (L : List En) (m : Nat) (c : Bool) : Option Nat := if c then ff (comAt L) (stb L) (stb L - m) else ff (fun o => decide (eK (L.getD o en0) ≤ 1)) L.length (L.length - m)
def F_fetch : SS → Int32 → Int32 → Bool → Int32 × SS
  | (P, cap, tmo, clk, cl, cut, X, sy, torn, tE, tp, _), p, fr, c =>
    if (cl || !isPn P p || decide (fr.toInt < 0)) = true then (-1, (P, cap, tmo, clk, cl, cut, X, sy, torn, tE, tp, [])) else
    (oI (offF (fl (kn p) X) (kn fr) c), (P, cap, tmo, clk, cl, cut, X, sy, torn, tE, tp, (match offF (fl (kn p) X) (kn fr) c with
      | none => []
      | some o => eP ((fl (kn p) X).getD o en0))))
def F_answer : SS → Int32 → Int32
  | (_, _, _, _, _, _, _, _, _, _, _, an), i => rAt an i
def F_sync : SS → Int32 × SS
  | (P, cap, tmo, clk, cl, cut, X, sy, torn, tE, tp, an) => if cl then (-1, (P, cap, tmo, clk, cl, cut, X, sy, torn, tE, tp, an)) else
    (nI (sumOn (sz P) (X.drop sy)), (P, cap, tmo, clk, cl, cut, X, X.length, torn, tE, tp, an))
def F_crash : SS → Int32 → Int32 × SS
  | (P, cap, tmo, clk, cl, cut, X, sy, torn, tE, tp, an), kept => if cl then (-1, (P, cap, tmo, clk, cl, cut, X, sy, torn, tE, tp, an)) else
    if kept.toInt < 0 ∨ sumOn (sz P) (X.drop sy) < kn kept then (-2, (P, cap, tmo, clk, cl, cut, X, sy, torn, tE, tp, an)) else
    (nI (sumOn (sz P) (X.drop sy) - kn kept), (P, cap, tmo, clk, true, cut, X.take (sy + (crp P (X.drop sy) (kn kept)).1), sy + (crp P (X.drop sy) (kn kept)).1, (crp P (X.drop sy) (kn kept)).2, X.getD (sy + (crp P (X.drop sy) (kn kept)).1) en0, tp, an))
def F_open : SS → Int32 × SS
  | (P, cap, tmo, clk, cl, cut, X, sy, torn, tE, tp, an) => if cl = false then (-1, (P, cap, tmo, clk, cl, cut, X, sy, torn, tE, tp, an)) else
    (nI (ovr (txF P) (dueD P) (finX P) 32 X).1, (P, cap, tmo, clk, false, torn, (ovr (txF P) (dueD P) (finX P) 32 X).2, sy, 0, tE, tp, an))
/-- the what-th of a row of answers -/
def swi (x : Int32) (l : List Int32) : Int32 := if 0 ≤ x.toInt ∧ x.toInt < l.length then l.getD (kn x) (-1) else -1
theorem swi_n {i : Nat} {l : List Int32} (h : i < l.length) (h2 : l.length < 2 ^ 31) : swi (nI i) l = l.getD i (-1) := by
  unfold swi kn
  rw [nI_toInt (by omega), if_pos (by omega)]
  rfl
theorem swi_d {x : Int32} {l : List Int32} (h : x.toInt < 0 ∨ (l.length : Int) ≤ x.toInt) : swi x l = -1 := by
  unfold swi
  rw [if_neg (by omega)]
theorem sw_cases (x : Int32) (n : Nat) : (∃ i, i < n ∧ x = nI i) ∨ (x.toInt < 0 ∨ (n : Int) ≤ x.toInt) := by
  by_cases h : 0 ≤ x.toInt ∧ x.toInt < n
  · exact Or.inl ⟨x.toInt.toNat, by omega, nI_ofInt h.1⟩
  · exact Or.inr (by omega)
def F_partition : SS → Int32 → Int32 → Int32
  | (P, _, _, _, cl, _, X, sy, torn, tE, _, _), p, what => if isPn P p = false then -1 else
    swi what [nI (fl (kn p) X).length, (if cl then -1 else nI (stb (fl (kn p) X))), nI (bytesF P torn tE X (kn p)).length, nI (sumOn (szF P (kn p)) (X.drop sy)), (if cl then -1 else nI (cntC (fl (kn p) X) (stb (fl (kn p) X)))), (if cl then -1 else nI (cntA (told P X) (kn p)))]
def F_entry : SS → Int32 → Int32 → Int32 → Int32
  | (P, _, _, _, _, _, X, _, _, _, _, _), p, o, what => if (isPn P p && decide (0 ≤ o.toInt ∧ o.toInt < (fl (kn p) X).length)) = false then -1 else
    swi what [nI (eK ((fl (kn p) X).getD (kn o) en0)), nI (eY ((fl (kn p) X).getD (kn o) en0)), nI (eE ((fl (kn p) X).getD (kn o) en0)), nI (eA ((fl (kn p) X).getD (kn o) en0)), nI (eB ((fl (kn p) X).getD (kn o) en0))]
def F_producer : SS → Int32 → Int32 → Int32
  | (P, _, _, _, cl, _, X, _, _, _, _, _), x, what => if (cl || !rgs (told P X) x) = true then -1 else
    swi what [m1 ((told P X).2.1 (kn x)), m1 ((told P X).2.2.1 (kn x)), m1 ((told P X).2.2.2.1 (kn x)), (told P X).2.2.2.2.2.1 (kn x), nI ((told P X).2.2.2.2.2.2.1 (kn x))]
def F_next : SS → Int32 → Int32 → Int32
  | (P, _, _, _, cl, _, X, _, _, _, _, _), x, p => if (cl || !rgs (told P X) x || !isPn P p) = true then -1 else nI (nxt (fl (kn p) X) (kn x) ((told P X).2.1 (kn x) - 1))
def F_byteOf : SS → Int32 → Int32 → Int32
  | (P, _, _, _, _, _, X, _, torn, tE, _, _), f, i => if f.toInt < 0 ∨ (P : Int) < f.toInt then -1 else rAt (bytesF P torn tE X (kn f)) i
def F_count : SS → Int32 → Int32
  | (P, cap, tmo, clk, cl, cut, X, sy, torn, tE, tp, _), what =>
    swi what [nI P, nI cap, nI tmo, nI clk, nI (sumOn (sz P) (X.drop sy)), nI (bytesF P torn tE X P).length, nI tp.length, b01 cl, nI cut, (if cl then -1 else nI (cntR (told P X))), (if cl then -1 else nI (cntO (told P X))), (if cl then -1 else nI (told P X).2.2.2.2.2.2.2.2.2.1)]
def sndR (P cap : Nat) (X : List En) (tp : List Nat) (k p : Nat) (num : Int32) (part : Bool) : Int32 × List En :=
  match recI (fl p X) k ((told P X).2.1 k - 1) num (fl p X).length 5 with
  | some o => (nI o, X)
  | none => if num ≠ nI (nxt (fl p X) k ((told P X).2.1 k - 1)) then (-6, X) else
    if (decide (bytesP p X + 14 + tp.length + 14 * (cntA (told P X) p + (if (part && !hasB ((told P X).2.2.2.2.2.1 k) p) = true then 1 else 0)) ≤ cap) && (!(part && !hasB ((told P X).2.2.2.2.2.1 k) p) || bkF (told P X) 0)) = false then (-8, X) else
    (nI (fl p X).length, (if (part && !hasB ((told P X).2.2.2.2.2.1 k) p) = true then X ++ [(P, 2, k, (told P X).2.1 k - 1, p, 0, 0, [])] else X) ++ [(p, (if part then 1 else 0), k, (told P X).2.1 k - 1, kn num, tp.length, (if part then (told P X).2.2.1 k else 0), tp)])
def F_send : SS → Int32 → Int32 → Int32 → Int32 → Bool → Int32 × SS
  | (P, cap, tmo, clk, cl, cut, X, sy, torn, tE, tp, an), x, e, p, num, part =>
    if refF cl (tS cl P X) x e (isPn P p) ≠ nI 0 then (refF cl (tS cl P X) x e (isPn P p), (P, cap, tmo, clk, cl, cut, X, sy, torn, tE, [], an)) else
    if (!decide ((told P X).2.2.1 (kn x) = 0)) ≠ part then (-5, (P, cap, tmo, clk, cl, cut, X, sy, torn, tE, [], an)) else
    ((sndR P cap X tp (kn x) (kn p) num part).1, (P, cap, tmo, clk, cl, cut, (sndR P cap X tp (kn x) (kn p) num part).2, sy, torn, tE, [], an))
/-- numbers of records are small -/
def qv (P : Nat) (X : List En) : Prop := ∀ i, i < X.length → eF (X.getD i en0) ≠ P → eK (X.getD i en0) ≤ 1 → eA (X.getD i en0) ≤ i
/-- what holds of every state between calls -/
def SI : SS → Prop
  | (P, cap, tmo, clk, cl, cut, X, sy, torn, tE, tp, an) => 1 ≤ P ∧ P ≤ 8 ∧ 100 ≤ cap ∧ cap ≤ 4000 ∧ 1 ≤ tmo ∧ tmo ≤ 1000 ∧ clk ≤ 1000000 ∧ cut ≤ 54 ∧ sy ≤ X.length ∧ pv P cap X ∧ (cl = false → torn = 0 ∧ noDec P X) ∧ (0 < torn → okE P tE ∧ torn < sz P tE) ∧ (cl = true → sy = X.length) ∧ tp.length ≤ 40 ∧ (∀ x ∈ tp, x < 256) ∧ an.length ≤ 40 ∧ (∀ x ∈ an, x < 256) ∧ qv P X
def fby (a b : Int64) (i : Nat) : Nat := ((if i < 8 then a else b).toUInt64 >>> ((nI 8 * (nI i &&& nI 7)).toInt64.toUInt64 &&& Int64.toUInt64 63)).toInt64.toInt32.toBitVec.toNat % 256
def F_feed : SS → Int32 → Int64 → Int64 → Int32 × SS
  | (P, cap, tmo, clk, cl, cut, X, sy, torn, tE, tp, an), n, a, b => if 1 ≤ n.toInt ∧ n.toInt ≤ 16 ∧ tp.length + kn n ≤ 40 then (nI (tp.length + kn n), (P, cap, tmo, clk, cl, cut, X, sy, torn, tE, tp ++ (List.range (kn n)).map (fby a b), an)) else (-1, (P, cap, tmo, clk, cl, cut, X, sy, torn, tE, tp, an))
