/-! THE MACHINE OVER AN ABSTRACT HEAP: a reference is the number of a cell; the law's script is .retAddr 0 -/
abbrev ix_E : Type := (FieldType × vp_A) ⊕ (Nat × List Value)
abbrev ix_H : Type := Nat × Nat × (Nat → ix_E)
abbrev ix_L : Type := List (Nat × Value)
abbrev ix_F : Type := Nat × ix_L × List Value × ix_H
abbrev ix_O : Type := Option Value × ix_H
abbrev ix_R : Type := ix_F ⊕ (ix_O ⊕ (Nat × List Value × ix_F))
abbrev ix_S : Type := Option (Nat × (Nat → Int32))
def ix_get (ls : ix_L) (k : Nat) : Option Value := (ls.find? (fun q => q.1 == k)).map (fun q => q.2)
def ix_put1 (ls : ix_L) (i : Nat) (v : Value) : ix_L := (i, v) :: ls.filter (fun q => !(q.1 == i) && !(q.1 + 1 == i && q.2.category == 2))
def ix_put2 (ls : ix_L) (i : Nat) (v : Value) : ix_L := (i, v) :: ls.filter (fun q => !(q.1 == i) && (!(q.1 == i + 1) && !(q.1 + 1 == i && q.2.category == 2)))
def ix_set (h : ix_H) (k : Nat) (x : ix_E) : ix_H := (h.1, h.2.1, va_up h.2.2 k x)
def ix_new (h : ix_H) (n : Nat) (x : ix_E) : ix_H := (h.1 + 1, h.2.1 + n, va_up h.2.2 h.1 x)
def ix_at (T : ix_T) (pc : Nat) : Option (Instr × Nat) := (T.find? (fun q => q.1 == pc)).map (fun q => q.2)
def ix_fld (cn idx : Nat) : Option (Nat × Nat × Nat × Nat) := (ix_FT.find? (fun q => q.1 == cn && q.2.1 == idx)).map (fun q => q.2.2)
def ix_mth (cn idx : Nat) : Option (Nat × Nat × Nat) := (ix_MT.find? (fun q => q.1 == cn && q.2.1 == idx)).map (fun q => q.2.2)
def ix_cls (cn idx : Nat) : Option (Nat × Nat) := (ix_CT.find? (fun q => q.1 == cn && q.2.1 == idx)).map (fun q => q.2.2)
def ix_con (cn idx : Nat) : Option (Int32 × Nat) := (ix_KT.find? (fun q => q.1 == cn && q.2.1 == idx)).map (fun q => q.2.2)
def ix_cnl (cn idx : Nat) : Option (Int64 × Nat) := (ix_KL.find? (fun q => q.1 == cn && q.2.1 == idx)).map (fun q => q.2.2)
def ix_jmp (pc : Nat) (off : Int) : Option Nat := if 0 ≤ (pc : Int) + off then some ((pc : Int) + off).toNat else none
def ix_len : Instr → Nat
  | .bipush _ => 2 | .iload _ => 2 | .lload _ => 2 | .aload _ => 2 | .istore _ => 2 | .lstore _ => 2 | .astore _ => 2 | .ldc _ => 2 | .newarray _ => 2
  | .sipush _ => 3 | .iinc _ _ => 3 | .ifCond _ _ => 3 | .if_icmp _ _ => 3 | .goto _ => 3 | .getfield _ => 3 | .putfield _ => 3 | .invokevirtual _ => 3 | .invokespecial _ => 3 | .invokestatic _ => 3 | .new _ => 3 | .anewarray _ => 3 | .ldc2_w _ => 3
  | _ => 1
def ix_tln (T : ix_T) : Bool := T.all (fun x => match x.2.1 with | .tableswitch _ _ _ _ => true | i => x.2.2 == ix_len i)
def ix_cmp (c : ClassFile.Cond) (x y : Int32) : Bool := match c with
  | .eq => decide (x = y) | .ne => decide (¬ x = y) | .lt => decide (x < y) | .ge => decide (y ≤ x) | .gt => decide (y < x) | .le => decide (x ≤ y)
def ix_pure (i : Instr) (st : List Value) : Option (List Value) := match i with
  | .iconst n => some (.int (Int32.ofInt n) :: st)
  | .bipush n => some (.int (Int8.ofInt n).toInt32 :: st)
  | .sipush n => some (.int (Int16.ofInt n).toInt32 :: st)
  | .iadd => (match st with | .int y :: .int x :: r => some (.int (x + y) :: r) | _ => none)
  | .isub => (match st with | .int y :: .int x :: r => some (.int (x - y) :: r) | _ => none)
  | .imul => (match st with | .int y :: .int x :: r => some (.int (x * y) :: r) | _ => none)
  | .iand => (match st with | .int y :: .int x :: r => some (.int (x &&& y) :: r) | _ => none)
  | .ior => (match st with | .int y :: .int x :: r => some (.int (x ||| y) :: r) | _ => none)
  | .ixor => (match st with | .int y :: .int x :: r => some (.int (x ^^^ y) :: r) | _ => none)
  | .ishl => (match st with | .int y :: .int x :: r => some (.int (x <<< (y &&& 31)) :: r) | _ => none)
  | .ishr => (match st with | .int y :: .int x :: r => some (.int (x >>> (y &&& 31)) :: r) | _ => none)
  | .iushr => (match st with | .int y :: .int x :: r => some (.int (x.toUInt32 >>> (y.toUInt32 &&& Int32.toUInt32 31)).toInt32 :: r) | _ => none)
  | .irem => (match st with | .int y :: .int x :: r => if y = 0 then none else some (.int (x - x / y * y) :: r) | _ => none)
  | .idiv => (match st with | .int y :: .int x :: r => if y = 0 then none else some (.int (x / y) :: r) | _ => none)
  | .ineg => (match st with | .int x :: r => some (.int (-x) :: r) | _ => none)
  | .i2l => (match st with | .int x :: r => some (.long x.toInt64 :: r) | _ => none)
  | .l2i => (match st with | .long x :: r => some (.int x.toInt32 :: r) | _ => none)
  | .i2b => (match st with | .int x :: r => some (.int x.toInt8.toInt32 :: r) | _ => none)
  | .land => (match st with | .long y :: .long x :: r => some (.long (x &&& y) :: r) | _ => none)
  | .lor => (match st with | .long y :: .long x :: r => some (.long (x ||| y) :: r) | _ => none)
  | .lshl => (match st with | .int y :: .long x :: r => some (.long (x <<< (y.toInt64 &&& 63)) :: r) | _ => none)
  | .lshr => (match st with | .int y :: .long x :: r => some (.long (x >>> (y.toInt64 &&& 63)) :: r) | _ => none)
  | .lushr => (match st with | .int y :: .long x :: r => some (.long (x.toUInt64 >>> (y.toInt64.toUInt64 &&& Int64.toUInt64 63)).toInt64 :: r) | _ => none)
  | .dup => (match st with | v :: r => if v.category = 1 then some (v :: v :: r) else none | _ => none)
  | .pop => (match st with | v :: r => if v.category = 1 then some r else none | _ => none)
  | .dup2 => (match st with | v :: w :: r => if v.category = 1 ∧ w.category = 1 then some (v :: w :: v :: w :: r) else none | _ => none)
  | _ => none
/-- the types of the fields, and which are final -/
def ix_ty : Nat → Nat → FieldType := fun ci => match ci with
  | 0 => tyX0 | 1 => tyX1 | 2 => tyX2 | 3 => tyX3 | 4 => tyX4 | _ => tyX5
def ix_TT : Nat → u_T := fun ci => match ci with
  | 0 => TX0 | 1 => TX1 | 2 => TX2 | 3 => TX3 | 4 => TX4 | _ => TX5
def ix_NN : Nat → Nat := fun ci => match ci with
  | 0 => 2 | 1 => 5 | 2 => 7 | 3 => 5 | 4 => 15 | _ => 34
def ix_ok (ty : FieldType) (v : Value) : Bool := match ty, v with
  | .int, .int _ => true
  | .boolean, .int x => decide (x = 0 ∨ x = 1)
  | .object _, .ref _ => true
  | .array _, .ref _ => true
  | _, _ => false
def ix_def (ty : FieldType) : Value := match ty with
  | .int => .int 0 | .boolean => .int 0 | .byte => .int 0 | _ => .null
def ix_blank (ci : Nat) : List Value := (List.range (ix_NN ci)).map (fun k => ix_def (ix_ty ci k))
def ix_ldI (pc n : Nat) (ls : ix_L) (st : List Value) (h : ix_H) (k : Nat) : Option ix_R := match ix_get ls k with
  | some (.int x) => some (.inl (pc + n, ls, .int x :: st, h)) | _ => none
def ix_ldL (pc n : Nat) (ls : ix_L) (st : List Value) (h : ix_H) (k : Nat) : Option ix_R := match ix_get ls k with
  | some (.long x) => some (.inl (pc + n, ls, .long x :: st, h)) | _ => none
def ix_ldA (pc n : Nat) (ls : ix_L) (st : List Value) (h : ix_H) (k : Nat) : Option ix_R := match ix_get ls k with
  | some (.ref x) => some (.inl (pc + n, ls, .ref x :: st, h)) | some (.retAddr x) => some (.inl (pc + n, ls, .retAddr x :: st, h)) | _ => none
def ix_stI (mL pc n : Nat) (ls : ix_L) (st : List Value) (h : ix_H) (k : Nat) : Option ix_R := match st with
  | .int x :: r => if k < mL then some (.inl (pc + n, ix_put1 ls k (.int x), r, h)) else none | _ => none
def ix_stL (mL pc n : Nat) (ls : ix_L) (st : List Value) (h : ix_H) (k : Nat) : Option ix_R := match st with
  | .long x :: r => if k + 1 < mL then some (.inl (pc + n, ix_put2 ls k (.long x), r, h)) else none | _ => none
def ix_stA (mL pc n : Nat) (ls : ix_L) (st : List Value) (h : ix_H) (k : Nat) : Option ix_R := match st with
  | .ref x :: r => if k < mL then some (.inl (pc + n, ix_put1 ls k (.ref x), r, h)) else none | _ => none
def ix_goto (pc : Nat) (off : Int) (ls : ix_L) (st : List Value) (h : ix_H) : Option ix_R := match ix_jmp pc off with
  | some t => some (.inl (t, ls, st, h)) | none => none
def ix_br (b : Bool) (pc : Nat) (off : Int) (ls : ix_L) (st : List Value) (h : ix_H) : Option ix_R := match ix_jmp pc off with
  | some t => some (.inl (if b then t else pc + 3, ls, st, h)) | none => none
def ix_gf (cn idx pc : Nat) (ls : ix_L) (st : List Value) (h : ix_H) : Option ix_R := match st with
  | .ref a :: r => (match h.2.2 a, ix_fld cn idx with
    | .inr (ci, fs), some (_, cj, k, _) => if ci = cj then (match fs[k]? with | some v => some (.inl (pc + 3, ls, v :: r, h)) | none => none) else none
    | _, _ => none)
  | _ => none
def ix_pf (cn kd idx pc : Nat) (ls : ix_L) (st : List Value) (h : ix_H) : Option ix_R := match st with
  | v :: .ref a :: r => (match h.2.2 a, ix_fld cn idx with
    | .inr (ci, fs), some (nest, cj, k, _) =>
      if ci = cj ∧ k < fs.length ∧ ix_ok (ix_ty ci k) v = true ∧ ((ix_TT ci k).2.2.2 = true → kd = 2 ∧ cn = ci ∧ nest = 0)
      then some (.inl (pc + 3, ls, r, ix_set h a (.inr (ci, fs.set k v)))) else none
    | _, _ => none)
  | _ => none
def ix_al (S : ix_S) (pc : Nat) (ls : ix_L) (st : List Value) (h : ix_H) : Option ix_R := match st with
  | .ref a :: r => (match h.2.2 a with
    | .inl (.int, n, .inl _) => some (.inl (pc + 1, ls, .int (Int32.ofNat n) :: r, h))
    | .inl (.byte, n, .inl _) => some (.inl (pc + 1, ls, .int (Int32.ofNat n) :: r, h))
    | .inl (.boolean, n, .inl _) => some (.inl (pc + 1, ls, .int (Int32.ofNat n) :: r, h))
    | _ => none)
  | .retAddr _ :: r => (match S with | some (L, _) => some (.inl (pc + 1, ls, .int (Int32.ofNat L) :: r, h)) | none => none)
  | _ => none
def ix_ia (S : ix_S) (pc : Nat) (ls : ix_L) (st : List Value) (h : ix_H) : Option ix_R := match st with
  | .int i :: .ref a :: r => (match h.2.2 a with
    | .inl (.int, n, .inl f) => if i < 0 ∨ n ≤ i.toNatClampNeg then none else some (.inl (pc + 1, ls, .int (f i.toNatClampNeg) :: r, h)) | _ => none)
  | .int i :: .retAddr _ :: r => (match S with
    | some (L, xs) => if i < 0 ∨ L ≤ i.toNatClampNeg then none else some (.inl (pc + 1, ls, .int (xs i.toNatClampNeg) :: r, h)) | none => none)
  | _ => none
def ix_ba (pc : Nat) (ls : ix_L) (st : List Value) (h : ix_H) : Option ix_R := match st with
  | .int i :: .ref a :: r => (match h.2.2 a with
    | .inl (.byte, n, .inl f) => if i < 0 ∨ n ≤ i.toNatClampNeg then none else some (.inl (pc + 1, ls, .int (f i.toNatClampNeg) :: r, h))
    | .inl (.boolean, n, .inl f) => if i < 0 ∨ n ≤ i.toNatClampNeg then none else some (.inl (pc + 1, ls, .int (f i.toNatClampNeg) :: r, h))
    | _ => none)
  | _ => none
def ix_aa (pc : Nat) (ls : ix_L) (st : List Value) (h : ix_H) : Option ix_R := match st with
  | .int i :: .ref a :: r => (match h.2.2 a with
    | .inl (.object C, n, .inr (.inr (.inr (.inr f)))) => if i < 0 ∨ n ≤ i.toNatClampNeg ∨ ¬ (C = RX1 ∨ C = RX2) then none else (match f i.toNatClampNeg with
      | some y => some (.inl (pc + 1, ls, .ref y :: r, h)) | none => none)
    | _ => none)
  | _ => none
def ix_is (pc : Nat) (ls : ix_L) (st : List Value) (h : ix_H) : Option ix_R := match st with
  | .int x :: .int i :: .ref a :: r => (match h.2.2 a with
    | .inl (.int, n, .inl f) => if i < 0 ∨ n ≤ i.toNatClampNeg then none else some (.inl (pc + 1, ls, r, ix_set h a (.inl (.int, n, .inl (upd f i.toNatClampNeg x))))) | _ => none)
  | _ => none
def ix_bs (pc : Nat) (ls : ix_L) (st : List Value) (h : ix_H) : Option ix_R := match st with
  | .int x :: .int i :: .ref a :: r => (match h.2.2 a with
    | .inl (.byte, n, .inl f) => if i < 0 ∨ n ≤ i.toNatClampNeg then none else some (.inl (pc + 1, ls, r, ix_set h a (.inl (.byte, n, .inl (upd f i.toNatClampNeg x.toInt8.toInt32)))))
    | .inl (.boolean, n, .inl f) => if i < 0 ∨ n ≤ i.toNatClampNeg then none else some (.inl (pc + 1, ls, r, ix_set h a (.inl (.boolean, n, .inl (upd f i.toNatClampNeg (x &&& 1))))))
    | _ => none)
  | _ => none
def ix_as (pc : Nat) (ls : ix_L) (st : List Value) (h : ix_H) : Option ix_R := match st with
  | .ref v :: .int i :: .ref a :: r => (match h.2.2 a, h.2.2 v with
    | .inl (.object C, n, .inr (.inr (.inr (.inr f)))), .inr (ci, _) => if i < 0 ∨ n ≤ i.toNatClampNeg then none else if (ci = 1 ∨ ci = 2) ∧ ix_RC ci = C then some (.inl (pc + 1, ls, r, ix_set h a (.inl (.object C, n, .inr (.inr (.inr (.inr (va_up f i.toNatClampNeg (some v)))))))))
      else none
    | _, _ => none)
  | _ => none
def ix_na (ty : FieldType) (pc : Nat) (ls : ix_L) (st : List Value) (h : ix_H) : Option ix_R := match st with
  | .int n :: r => if n < 0 ∨ 200000 < n.toNatClampNeg ∨ ¬ (ty = .int ∨ ty = .byte ∨ ty = .boolean) then none else some (.inl (pc + 2, ls, .ref h.1 :: r, ix_new h n.toNatClampNeg (.inl (ty, n.toNatClampNeg, .inl (fun _ => 0)))))
  | _ => none
def ix_nq (cn idx pc : Nat) (ls : ix_L) (st : List Value) (h : ix_H) : Option ix_R := match st, ix_cls cn idx with
  | .int n :: r, some (ci, _) => if n < 0 ∨ 200000 < n.toNatClampNeg ∨ ¬ (ci = 1 ∨ ci = 2) then none else some (.inl (pc + 3, ls, .ref h.1 :: r, ix_new h n.toNatClampNeg (.inl (.object (ix_RC ci), n.toNatClampNeg, .inr (.inr (.inr (.inr (fun _ => none))))))))
  | _, _ => none
def ix_no (cn idx pc : Nat) (ls : ix_L) (st : List Value) (h : ix_H) : Option ix_R := match ix_cls cn idx with
  | some (ci, _) => if ci ≤ 5 then some (.inl (pc + 3, ls, .ref h.1 :: st, ix_new h (ix_NN ci) (.inr (ci, ix_blank ci)))) else none
  | none => none
def ix_rcv (h : ix_H) (cn : Nat) (as : List Value) : Bool := match as with
  | .ref a :: _ => (match h.2.2 a with | .inr (ci, _) => ci == cn | _ => false)
  | _ => false
/-- a call: kd the kind that the instruction asks for -/
def ix_call (cn kd idx pc : Nat) (ls : ix_L) (st : List Value) (h : ix_H) : Option ix_R := match ix_mth cn idx with
  | none => none
  | some (nest, y, _) => if nest = 2 then (match st with
      | .ref _ :: r => if kd = 2 ∧ (r.map fun v => v.category).sum ≤ 8 then some (.inl (pc + 3, ls, r, h)) else none
      | _ => none)
    else if nest = 3 then (match st with
      | .int y :: .int x :: r => if kd = 1 ∧ (r.map fun v => v.category).sum ≤ 8 then some (.inl (pc + 3, ls, .int (if x < y then y else x) :: r, h)) else none
      | _ => none)
    else if nest = 4 then (match st with
      | .int y :: .int x :: r => if kd = 1 ∧ (r.map fun v => v.category).sum ≤ 8 then some (.inl (pc + 3, ls, .int (if y < x then y else x) :: r, h)) else none
      | _ => none)
    else (match mNs[y]? with
      | none => none
      | some q =>
        let np := q.2.2.2.2.2.1 + (if kd = 1 then 0 else 1)
        if q.2.2.2.2.2.2.1 = kd ∧ np ≤ st.length ∧ ((st.drop np).map fun v => v.category).sum ≤ 8 ∧ (nest = 1 → kd = 2) ∧ (nest = 0 ∨ nest = 1) ∧
            (kd = 1 ∨ ix_rcv h q.1 (st.take np).reverse = true)
        then some (.inr (.inr (y, (st.take np).reverse, (pc + 3, ls, st.drop np, h)))) else none)
def ix_exec (S : ix_S) (q : ix_M) (i : Instr) (pc : Nat) (ls : ix_L) (st : List Value) (h : ix_H) : Option ix_R := match i with
  | .iload k => ix_ldI pc 2 ls st h k
  | .iload_n k => ix_ldI pc 1 ls st h k
  | .lload k => ix_ldL pc 2 ls st h k
  | .lload_n k => ix_ldL pc 1 ls st h k
  | .aload k => ix_ldA pc 2 ls st h k
  | .aload_n k => ix_ldA pc 1 ls st h k
  | .istore k => ix_stI q.2.2.2.1 pc 2 ls st h k
  | .istore_n k => ix_stI q.2.2.2.1 pc 1 ls st h k
  | .lstore k => ix_stL q.2.2.2.1 pc 2 ls st h k
  | .lstore_n k => ix_stL q.2.2.2.1 pc 1 ls st h k
  | .astore k => ix_stA q.2.2.2.1 pc 2 ls st h k
  | .astore_n k => ix_stA q.2.2.2.1 pc 1 ls st h k
  | .iinc k c => (match ix_get ls k with | some (.int x) => if k < q.2.2.2.1 then some (.inl (pc + 3, ix_put1 ls k (.int (x + Int32.ofInt c)), st, h)) else none | _ => none)
  | .goto off => ix_goto pc off ls st h
  | .ifCond c off => (match st with | .int x :: r => ix_br (ix_cmp c x 0) pc off ls r h | _ => none)
  | .if_icmp c off => (match st with | .int y :: .int x :: r => ix_br (ix_cmp c x y) pc off ls r h | _ => none)
  | .tableswitch d lo hi offs => (match st with
    | .int x :: r => if x.toInt < lo ∨ hi < x.toInt then ix_goto pc d ls r h else (match offs[(x.toInt - lo).toNat]? with | some o => ix_goto pc o ls r h | none => none)
    | _ => none)
  | .ldc idx => (match ix_con q.1 idx with | some (v, _) => some (.inl (pc + 2, ls, .int v :: st, h)) | none => none)
  | .ldc2_w idx => (match ix_cnl q.1 idx with | some (v, _) => some (.inl (pc + 3, ls, .long v :: st, h)) | none => none)
  | .getfield idx => ix_gf q.1 idx pc ls st h
  | .putfield idx => ix_pf q.1 q.2.2.2.2.2.2.1 idx pc ls st h
  | .arraylength => ix_al S pc ls st h
  | .iaload => ix_ia S pc ls st h
  | .baload => ix_ba pc ls st h
  | .aaload => ix_aa pc ls st h
  | .iastore => ix_is pc ls st h
  | .bastore => ix_bs pc ls st h
  | .aastore => ix_as pc ls st h
  | .newarray t => ix_na (newarray.typeOf t) pc ls st h
  | .anewarray idx => ix_nq q.1 idx pc ls st h
  | .new idx => ix_no q.1 idx pc ls st h
  | .invokevirtual idx => ix_call q.1 0 idx pc ls st h
  | .invokestatic idx => ix_call q.1 1 idx pc ls st h
  | .invokespecial idx => ix_call q.1 2 idx pc ls st h
  | .ireturn => (match st, q.2.2.2.2.1 with | [.int v], some ty => if ix_ok ty (.int v) = true then some (.inr (.inl (some (.int v), h))) else none | _, _ => none)
  | .areturn => (match st, q.2.2.2.2.1 with | [.ref v], some (.object _) => some (.inr (.inl (some (.ref v), h))) | _, _ => none)
  | .return_ => (match st, q.2.2.2.2.1 with | [], none => some (.inr (.inl (none, h))) | _, _ => none)
  | i => (match ix_pure i st with | some st' => some (.inl (pc + ix_len i, ls, st', h)) | none => none)
def ix_step (S : ix_S) (q : ix_M) (f : ix_F) : Option ix_R := match ix_at q.2.2.2.2.2.2.2.1 f.1 with
  | some (i, _) => ix_exec S q i f.1 f.2.1 f.2.2.1 f.2.2.2
  | none => none
def ix_run (S : ix_S) (C : Nat → List Value → ix_H → ix_O → Prop) (q : ix_M) : Nat → ix_F → ix_O → Prop
  | 0, _, _ => False
  | n + 1, f, o => match ix_step S q f with
    | none => False
    | some (.inl g) => ix_run S C q n g o
    | some (.inr (.inl u)) => u = o
    | some (.inr (.inr (y, as, (pc, ls, st, h)))) => ∃ (v : Option Value) (h' : ix_H), C y as h (v, h') ∧ ix_run S C q n (pc, ls, v.toList ++ st, h') o
/-- method number y, with these arguments, at this heap, comes to its end with that answer and that heap; at most d calls stand open -/
def ix_ev : Nat → Nat → List Value → ix_H → ix_O → Prop
  | 0, _, _, _, _ => False
  | d + 1, y, as, h, o => ∃ (q : ix_M) (n : Nat), mNs[y]? = some q ∧ ix_run none (ix_ev d) q n (0, lv_args 0 as, [], h) o
/-- inside a method, with calls of depth d -/
def ix_J (S : ix_S) (d : Nat) (q : ix_M) (f : ix_F) (o : ix_O) : Prop := ∃ n, ix_run S (ix_ev d) q n f o
