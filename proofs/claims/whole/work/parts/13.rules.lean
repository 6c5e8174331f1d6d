/-! RULES FOR RUNS OF THE INTERPRETER -/
def ix_rl (ls : ix_L) (r : ix_R) : ix_R := match r with
  | .inl (pc, _, st, h) => .inl (pc, ls, st, h)
  | .inr (.inl o) => .inr (.inl o)
  | .inr (.inr (y, as, (pc, _, st, h))) => .inr (.inr (y, as, (pc, ls, st, h)))
def ix_nd (ls : ix_L) : Prop := (ls.map (fun x => x.1)).Nodup
def ix_le (k l : ix_L) : Prop := ix_nd k ∧ ∀ i v, ix_get k i = some v → ix_get l i = some v
theorem ix_get_cons (i k : Nat) (v : Value) (l : ix_L) : ix_get ((i, v) :: l) k = if i = k then some v else ix_get l k := by
  unfold ix_get
  by_cases h : i = k
  · subst h; simp
  · have : (i == k) = false := by simpa using h
    simp [List.find?_cons, this, h]
theorem ix_get_filter {P : Nat × Value → Bool} {l : ix_L} {k : Nat} {v : Value} (h : ix_get l k = some v) (hp : P (k, v) = true) : ix_get (l.filter P) k = some v := by
  induction l with
  | nil => simp [ix_get] at h
  | cons x l ih =>
    obtain ⟨i, w⟩ := x
    rw [ix_get_cons] at h
    by_cases e : i = k
    · subst e
      rw [if_pos rfl] at h
      cases h
      rw [List.filter_cons_of_pos hp, ix_get_cons, if_pos rfl]
    · rw [if_neg e] at h
      by_cases hx : P (i, w) = true
      · rw [List.filter_cons_of_pos hx, ix_get_cons, if_neg e]
        exact ih h
      · rw [List.filter_cons_of_neg hx]
        exact ih h
theorem ix_get_filter' {P : Nat × Value → Bool} {l : ix_L} {k : Nat} {v : Value} (hn : ix_nd l) (h : ix_get (l.filter P) k = some v) : ix_get l k = some v ∧ P (k, v) = true := by
  induction l with
  | nil => simp [ix_get] at h
  | cons x l ih =>
    obtain ⟨i, w⟩ := x
    have hn2 : ix_nd l := (List.nodup_cons.mp hn).2
    have hni : i ∉ l.map (fun x => x.1) := (List.nodup_cons.mp hn).1
    by_cases hx : P (i, w) = true
    · rw [List.filter_cons_of_pos hx, ix_get_cons] at h
      rw [ix_get_cons]
      by_cases e : i = k
      · subst e
        rw [if_pos rfl] at h ⊢
        cases h
        exact ⟨rfl, hx⟩
      · rw [if_neg e] at h ⊢
        exact ih hn2 h
    · rw [List.filter_cons_of_neg hx] at h
      obtain ⟨h1, h2⟩ := ih hn2 h
      have hk : k ∈ l.map (fun x => x.1) := List.mem_map.mpr ⟨(k, v), ix_get_mem h1, rfl⟩
      have e : ¬ i = k := fun z => hni (z ▸ hk)
      rw [ix_get_cons, if_neg e]
      exact ⟨h1, h2⟩
theorem ix_nd_filter {P : Nat × Value → Bool} {l : ix_L} (hn : ix_nd l) : ix_nd (l.filter P) := List.Nodup.sublist (List.Sublist.map _ List.filter_sublist) hn
theorem ix_le_put1 {k l : ix_L} (h : ix_le k l) (i : Nat) (v : Value) : ix_le (ix_put1 k i v) (ix_put1 l i v) := by
  obtain ⟨hn, hg⟩ := h
  refine ⟨List.nodup_cons.mpr ⟨fun z => ?_, ix_nd_filter hn⟩, fun j w hj => ?_⟩
  · obtain ⟨x, hx, e⟩ := List.mem_map.mp z
    have := (List.mem_filter.mp hx).2
    simp [e] at this
  · unfold ix_put1 at hj ⊢
    rw [ix_get_cons] at hj ⊢
    by_cases e : i = j
    · rw [if_pos e] at hj ⊢; exact hj
    · rw [if_neg e] at hj ⊢
      obtain ⟨h1, h2⟩ := ix_get_filter' hn hj
      exact ix_get_filter (hg _ _ h1) h2
theorem ix_le_put2 {k l : ix_L} (h : ix_le k l) (i : Nat) (v : Value) : ix_le (ix_put2 k i v) (ix_put2 l i v) := by
  obtain ⟨hn, hg⟩ := h
  refine ⟨List.nodup_cons.mpr ⟨fun z => ?_, ix_nd_filter hn⟩, fun j w hj => ?_⟩
  · obtain ⟨x, hx, e⟩ := List.mem_map.mp z
    have := (List.mem_filter.mp hx).2
    simp [e] at this
  · unfold ix_put2 at hj ⊢
    rw [ix_get_cons] at hj ⊢
    by_cases e : i = j
    · rw [if_pos e] at hj ⊢; exact hj
    · rw [if_neg e] at hj ⊢
      obtain ⟨h1, h2⟩ := ix_get_filter' hn hj
      exact ix_get_filter (hg _ _ h1) h2
/-- results with fewer locals -/
def ix_lr (r r' : ix_R) : Prop := match r, r' with
  | .inl (pc, ls, st, h), .inl (pc', ls', st', h') => pc = pc' ∧ ix_le ls ls' ∧ st = st' ∧ h = h'
  | .inr (.inl o), .inr (.inl o') => o = o'
  | .inr (.inr (y, as, (pc, ls, st, h))), .inr (.inr (y', as', (pc', ls', st', h'))) => y = y' ∧ as = as' ∧ pc = pc' ∧ ix_le ls ls' ∧ st = st' ∧ h = h'
  | _, _ => False
theorem ix_lr_rl {k l : ix_L} (h : ix_le k l) {x : Option ix_R} {y : Option ix_R} {r : ix_R} (hx : x = some r) (hy : y = x.map (ix_rl l)) (hr : ix_rl k r = r) : ∃ r', y = some r' ∧ ix_lr r r' := by
  subst hx
  refine ⟨_, hy, ?_⟩
  rcases r with ⟨pc, ls, st, hh⟩ | o | ⟨y', as, pc, ls, st, hh⟩
  · cases hr; exact ⟨rfl, h, rfl, rfl⟩
  · rfl
  · cases hr; exact ⟨rfl, rfl, rfl, h, rfl, rfl⟩
