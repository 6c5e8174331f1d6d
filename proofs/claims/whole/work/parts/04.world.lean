/-! THE ABSTRACT HEAP ON THE MACHINE'S -/
def ix_cv (b base : Nat) : Value → Value
  | .ref k => .ref (base + k)
  | .retAddr _ => .ref b
  | .int x => .int x
  | .long x => .long x
  | .float x => .float x
  | .double x => .double x
  | .null => .null
theorem ix_cv_cat (b base : Nat) (v : Value) : (ix_cv b base v).category = v.category := by cases v <;> rfl
abbrev ix_cp (b base : Nat) (x : Nat × Value) : Nat × Value := (x.1, ix_cv b base x.2)
def ix_ca (base : Nat) (x : (Nat → Int32) ⊕ (Nat → Int64) ⊕ (Nat → UInt32) ⊕ (Nat → UInt64) ⊕ (Nat → Option Nat)) : (Nat → Int32) ⊕ (Nat → Int64) ⊕ (Nat → UInt32) ⊕ (Nat → UInt64) ⊕ (Nat → Option Nat) := match x with
  | .inl f => .inl f
  | .inr (.inl f) => .inr (.inl f)
  | .inr (.inr (.inl f)) => .inr (.inr (.inl f))
  | .inr (.inr (.inr (.inl f))) => .inr (.inr (.inr (.inl f)))
  | .inr (.inr (.inr (.inr f))) => .inr (.inr (.inr (.inr (fun i => (f i).map (fun k => base + k)))))
def ix_ce (b base : Nat) (aC : FieldType → ClassId) (x : ix_E) : va_E := match x with
  | .inl (ty, n, f) => .inl (aC ty, n, ix_ca base f)
  | .inr (ci, fs) => .inr (ci, fs.map (ix_cv b base))
def ix_ws (b base : Nat) (aC : FieldType → ClassId) (h : ix_H) : va_W := (List.range h.1).map (fun k => (base + k, ix_ce b base aC (h.2.2 k)))
def ix_A (base : Nat) : Nat → Prop := fun x => base ≤ x
section IXA
variable {b base : Nat} {aC : FieldType → ClassId} {h : ix_H}
theorem ix_ws_get {k : Nat} (hk : k < h.1) : (ix_ws b base aC h)[k]? = some (base + k, ix_ce b base aC (h.2.2 k)) := by
  simp [ix_ws, hk]
theorem ix_ws_inv {k : Nat} {x : Nat × va_E} (hx : (ix_ws b base aC h)[k]? = some x) : k < h.1 ∧ x = (base + k, ix_ce b base aC (h.2.2 k)) := by
  have hk : k < h.1 := by
    have := (List.getElem?_eq_some_iff.mp hx).1
    simpa [ix_ws] using this
  rw [ix_ws_get hk] at hx
  exact ⟨hk, (Option.some.inj hx).symm⟩
theorem ix_ws_set {k : Nat} (hk : k < h.1) (x : ix_E) : (ix_ws b base aC h).set k (base + k, ix_ce b base aC x) = ix_ws b base aC (ix_set h k x) := by
  apply List.ext_getElem?
  intro j
  by_cases hj : j < h.1
  · rw [ix_ws_get (h := ix_set h k x) (show j < (ix_set h k x).1 from hj), List.getElem?_set]
    by_cases e : k = j
    · subst e
      rw [if_pos rfl, if_pos (by simp [ix_ws, hk])]
      simp [ix_set, va_up]
    · rw [if_neg e, ix_ws_get hj]
      simp [ix_set, va_up, Ne.symm e]
  · rw [List.getElem?_eq_none (by simp [ix_ws]; omega), List.getElem?_eq_none (by simp [ix_ws, ix_set]; omega)]
theorem ix_ws_new (n : Nat) (x : ix_E) : ix_ws b base aC h ++ [(base + h.1, ix_ce b base aC x)] = ix_ws b base aC (ix_new h n x) := by
  simp only [ix_ws, ix_new, List.range_succ, List.map_append, List.map_cons, List.map_nil]
  congr 1
  · apply List.map_congr_left
    intro k hk
    have : k ≠ h.1 := by have := List.mem_range.mp hk; omega
    simp [va_up, this]
  · simp [va_up]
theorem ix_wD : va_D (ix_A base) (ix_ws b base aC h) := by
  refine ⟨fun i j x y hx hy hxy => ?_, fun k x hx => ?_⟩
  · obtain ⟨-, rfl⟩ := ix_ws_inv hx
    obtain ⟨-, rfl⟩ := ix_ws_inv hy
    have : base + i = base + j := hxy
    omega
  · obtain ⟨-, rfl⟩ := ix_ws_inv hx
    exact Nat.le_add_right _ _
end IXA
/-- an unused cell -/
def ix_no_ : ix_E := .inr (99, [])
def ix_I (D : va_G) (b base : Nat) (aC : FieldType → ClassId) (H0 : Heap) (h : ix_H) (H : Heap) (locs : List Loc) : Prop :=
  H.size = base + h.1 ∧ (∀ k, h.1 ≤ k → h.2.2 k = ix_no_) ∧ va_P D vwCl (ix_ws b base aC h) H ∧ va_S (ix_A base) H0 H locs
section IXB
variable {D : va_G} {b base : Nat} {aC : FieldType → ClassId} {H0 : Heap} {h : ix_H} {H : Heap} {locs : List Loc}
theorem ix_I.lt (hI : ix_I D b base aC H0 h H locs) {a : Nat} (hx : h.2.2 a ≠ ix_no_) : a < h.1 := Nat.lt_of_not_le fun z => hx (hI.2.1 a z)
theorem ix_I.set (hI : ix_I D b base aC H0 h H locs) {a : Nat} (ha : a < h.1) {x : ix_E} {H1 : Heap} {k : Nat} (he : va_at D vwCl (base + a, ix_ce b base aC x) H1) (z : H1.size = H.size) (oq : ∀ y : Nat, y ≠ base + a → H1[y]? = H[y]?) :
    ix_I D b base aC H0 (ix_set h a x) H1 (locs ++ [⟨base + a, k⟩]) := by
  refine ⟨z.trans hI.1, fun j hj => ?_, ?_, hI.2.2.2.put z oq (Nat.le_add_right _ _)⟩
  · have hj : h.1 ≤ j := hj
    have : j ≠ a := by omega
    simp only [ix_set, va_up, this, if_false]
    exact hI.2.1 j hj
  · rw [← ix_ws_set ha]
    exact hI.2.2.1.set ix_wD (ix_ws_get ha) he oq
theorem ix_I.new (hI : ix_I D b base aC H0 h H locs) {x : ix_E} {H1 : Heap} (n : Nat) (he : va_at D vwCl (base + h.1, ix_ce b base aC x) H1) (z : H1.size = H.size + 1) (o1 : ∀ y : Nat, y < H.size → H1[y]? = H[y]?) :
    ix_I D b base aC H0 (ix_new h n x) H1 locs := by
  obtain ⟨i1, i2, i3, i4⟩ := hI
  refine ⟨?_, fun j hj => ?_, ?_, Nat.le_trans i4.1 (by omega), fun y h1 h2 => (o1 y (Nat.lt_of_lt_of_le h1 i4.1)).trans (i4.2.1 y h1 h2), i4.2.2⟩
  · show H1.size = base + (h.1 + 1)
    omega
  · have hj : h.1 + 1 ≤ j := hj
    have : j ≠ h.1 := by omega
    simp only [ix_new, va_up, this, if_false]
    exact i2 j (by omega)
  · rw [← ix_ws_new n x]
    refine (i3.kept fun k y hy => o1 y.1 (i3 k y hy).lt).app fun k y hy => ?_
    have hz : k < 1 := (List.getElem?_eq_some_iff.mp hy).1
    rw [show k = 0 by omega] at hy
    cases hy
    exact he
end IXB
theorem ix_get_mem {ls : ix_L} {k : Nat} {v : Value} (h : ix_get ls k = some v) : (k, v) ∈ ls := by
  unfold ix_get at h
  cases hf : ls.find? (fun x => x.1 == k) with
  | none => rw [hf] at h; cases h
  | some x =>
    rw [hf] at h
    have h1 := List.find?_some hf
    have h2 := List.mem_of_find?_eq_some hf
    obtain ⟨i, w⟩ := x
    simp at h1 h
    subst h1; subst h
    exact h2
theorem ix_put1_map (b base : Nat) (ls : ix_L) (i : Nat) (v : Value) : (i, ix_cv b base v) :: (ls.map (ix_cp b base)).filter (fun x => !(x.1 == i) && !(x.1 + 1 == i && x.2.category == 2)) = (ix_put1 ls i v).map (ix_cp b base) := by
  simp only [ix_put1, List.map_cons, List.filter_map]
  congr 2
  apply List.filter_congr
  intro x _
  simp [ix_cp, ix_cv_cat]
theorem ix_put2_map (b base : Nat) (ls : ix_L) (i : Nat) (v : Value) : (i, ix_cv b base v) :: (ls.map (ix_cp b base)).filter (fun x => !(x.1 == i) && (!(x.1 == i + 1) && !(x.1 + 1 == i && x.2.category == 2))) = (ix_put2 ls i v).map (ix_cp b base) := by
  simp only [ix_put2, List.map_cons, List.filter_map]
  congr 2
  apply List.filter_congr
  intro x _
  simp [ix_cp, ix_cv_cat]
theorem ix_args_map (b base : Nat) (as : List Value) : ∀ i : Nat, lv_args i (as.map (ix_cv b base)) = (lv_args i as).map (ix_cp b base) := by
  induction as with
  | nil => intro i; rfl
  | cons v as ih =>
    intro i
    simp only [List.map_cons, lv_args, ix_cv_cat, ih]
/-! the words -/
def ix_tb : List Jvm.Cond := lw_tbl.filter goodWord
def ix_nst : List Jvm.Cond := lw_tbl.filter (fun w => match w with | .fieldLinkNest _ _ _ _ _ _ => true | .methodLinkNest _ _ _ _ => true | _ => false)
def ix_tys (aC : FieldType → ClassId) : List (ClassId × FieldType) := [(aC .int, .int), (aC .byte, .byte), (aC .boolean, .boolean), (aC (.object RX1), .object RX1), (aC (.object RX2), .object RX2)]
def ix_K (D : va_G) (aC : FieldType → ClassId) (U : State) : Prop := va_K D vwCl (ix_tys aC) U ∧ (∀ w ∈ ix_nst, va_Nw w U) ∧ va_AO RX1 U ∧ va_AO RX2 U
theorem ix_tb_good : GoodIn ix_tb ix_tb := fun w hw => ⟨hw, good_of_word (List.mem_filter.mp hw).2⟩
theorem ix_K.warm {D : va_G} {aC : FieldType → ClassId} {s U : State} (hW : s.WarmedH U.vm) (h : ix_K D aC s) : ix_K D aC U := by
  obtain ⟨h1, h2, h3, h4⟩ := h
  refine ⟨va_K.moved hW.alike h1, fun w hw => ?_, h3.moved hW.alike, h4.moved hW.alike⟩
  have h5 := h2 w hw
  have h6 := (List.mem_filter.mp hw).2
  cases w <;> first | (cases h6; done) | exact va_Nw.warmF hW h5 | exact va_Nw.warmM hW h5
theorem ix_K.calling {D : va_G} {aC : FieldType → ClassId} {U : State} {g : JFrame} {mk : MethodId} {a : Array Value} (h : ix_K D aC U) : ix_K D aC (U.calling g mk a) := by
  obtain ⟨h1, h2, h3, h4⟩ := h
  refine ⟨va_K.moved (u := U) (U := U.calling g mk a) (Vm.Alike.refl U.vm) h1, fun w hw => ?_, h3.moved (u := U) (U := U.calling g mk a) (Vm.Alike.refl U.vm), h4.moved (u := U) (U := U.calling g mk a) (Vm.Alike.refl U.vm)⟩
  have h5 := h2 w hw
  have h6 := (List.mem_filter.mp hw).2
  cases w <;> first | (cases h6; done) | exact va_Nw.same rfl (u := U) (U := U.calling g mk a) rfl h5
/-! the tables against the Statement -/
def ix_fok (t : Nat × Nat × Nat × Nat × Nat × Nat) : Bool := match t with
  | (cn, idx, nest, ci, k, i) => decide (ci ≤ 5) && decide (k < ix_NN ci) && decide (lw_tbl[i]? = some (if nest = 0 then .fieldLink (ix_RC cn) idx (ix_TT ci k).1 (ix_TT ci k).2.1 (ix_TT ci k).2.2.1 else .fieldLinkNest (ix_RC cn) idx (ix_TT ci k).1 (ix_TT ci k).2.1 (ix_TT ci k).2.2.1 "OnceLedger"))
theorem ix_FT_ok : ix_FT.all ix_fok = true := by decide +kernel
def ix_kok (t : Nat × Nat × Int32 × Nat) : Bool := match t with
  | (cn, idx, v, i) => decide (lw_tbl[i]? = some (.constant (ix_RC cn) idx v))
theorem ix_KT_ok : ix_KT.all ix_kok = true := by decide +kernel
def ix_lok (t : Nat × Nat × Int64 × Nat) : Bool := match t with
  | (cn, idx, v, i) => decide (lw_tbl[i]? = some (.constantLong (ix_RC cn) idx v))
theorem ix_KL_ok : ix_KL.all ix_lok = true := by decide +kernel
def ix_cok (t : Nat × Nat × Nat × Nat) : Bool := match t with
  | (cn, idx, ci, i) => decide (ci ≤ 5) && decide (lw_tbl[i]? = some (.classLink (ix_RC cn) idx (ix_RC ci)))
theorem ix_CT_ok : ix_CT.all ix_cok = true := by decide +kernel
def ix_hok (t : Nat × Nat × Nat × Nat × Nat) : Bool := match t with
  | (cn, idx, nest, y, i) => if nest = 2 then decide (lw_tbl[i]? = some (.methodLink (ix_RC cn) idx objectInit)) else if nest = 3 then decide (lw_tbl[i]? = some (.methodLink (ix_RC cn) idx Lib.Math.max.name)) else if nest = 4 then decide (lw_tbl[i]? = some (.methodLink (ix_RC cn) idx Lib.Math.min.name)) else match mNs[y]? with
    | none => false
    | some q => decide (lw_tbl[i]? = some (if nest = 0 then .methodLink (ix_RC cn) idx q.2.1 else .methodLinkNest (ix_RC cn) idx q.2.1 "OnceLedger"))
theorem ix_MT_ok : ix_MT.all ix_hok = true := by decide +kernel
theorem ix_ins_ok : ∀ ci, ci < 6 → lw_tbl[ix_ins.getD ci 0]? = some (.instantiable (ix_RC ci) (ix_NN ci)) ∧ lw_tbl[ix_ini.getD ci 0]? = some (.initialized (ix_RC ci)) := by decide +kernel
theorem ix_mw_ok : lw_tbl[ix_mw.getD 0 0]? = some (.static Lib.Math.max.name) ∧ lw_tbl[ix_mw.getD 1 0]? = some (.code Lib.Math.max.name Lib.Math.max.code 2 (some .int)) ∧ lw_tbl[ix_mw.getD 2 0]? = some (.static Lib.Math.min.name) ∧ lw_tbl[ix_mw.getD 3 0]? = some (.code Lib.Math.min.name Lib.Math.min.code 2 (some .int)) ∧ lw_tbl[ix_mw.getD 4 0]? = some (.instanceMethod objectInit) ∧ lw_tbl[ix_mw.getD 5 0]? = some (.code objectInit ⟨#[0xb1]⟩ 1 none) ∧ lw_tbl[ix_mw.getD 6 0]? = some (.initialized "java/lang/Math") ∧ lw_tbl[ix_mw.getD 7 0]? = some (.arrayClass .int) ∧ lw_tbl[ix_mw.getD 8 0]? = some (.arrayClass .byte) ∧ lw_tbl[ix_mw.getD 9 0]? = some (.arrayClass .boolean) := by decide +kernel
