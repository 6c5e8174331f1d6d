/-! NUMBERS AND BYTES -/
theorem nI_bv (n : Nat) : (nI n).toBitVec = BitVec.ofNat 32 n := rfl
theorem i32_ext {x y : Int32} (h : x.toBitVec = y.toBitVec) : x = y := Int32.toBitVec_inj.mp h
theorem nI_mod (n : Nat) : nI (n % 2 ^ 32) = nI n := by
  apply i32_ext
  rw [nI_bv, nI_bv]
  apply BitVec.eq_of_toNat_eq
  simp
theorem nI_toNat (x : Int32) : nI x.toBitVec.toNat = x := by
  apply i32_ext
  rw [nI_bv]
  apply BitVec.eq_of_toNat_eq
  simp
theorem sg_low (v : Int32) : sg (v.toBitVec.toNat % 256) = v.toInt8.toInt32 := by
  unfold sg
  congr 1
  apply Int8.toBitVec_inj.mp
  apply BitVec.eq_of_toNat_eq
  have h : v.toBitVec.toNat < 2 ^ 32 := v.toBitVec.isLt
  simp [nI, Int32.toBitVec_toInt8]
  rw [BitVec.signExtend_eq_setWidth_of_le _ (by decide)]
  simp
/-- big-endian bytes of an int -/
def be : Nat → Int32 → List Nat
  | 0, _ => []
  | w + 1, v => (v.toBitVec.toNat / 2 ^ (8 * w)) % 256 :: be w v
theorem be_len (w : Nat) (v : Int32) : (be w v).length = w := by
  induction w with
  | zero => rfl
  | succ w ih => simp [be, ih]
theorem be_lt (w : Nat) (v : Int32) : ∀ b ∈ be w v, b < 256 := by
  induction w with
  | zero => intro b h; simp [be] at h
  | succ w ih =>
    intro b h
    rcases List.mem_cons.mp h with rfl | h
    · exact Nat.mod_lt _ (by decide)
    · exact ih b h
/-- the number that bytes spell -/
def beN (l : List Nat) : Nat := l.foldl (fun a b => a * 256 + b) 0
theorem or_byte (a b : Nat) (hb : b < 256) : (nI a <<< (nI 8 &&& 31)) ||| nI b = nI (a * 256 + b) := by
  have h8 : nI 8 &&& 31 = nI 8 := by decide +kernel
  rw [h8]
  apply i32_ext
  have e1 : (nI a <<< nI 8).toBitVec = BitVec.ofNat 32 (a * 256) := by
    apply BitVec.eq_of_toNat_eq
    rw [pk_shl (nI a) (nI 8) 8 (by decide +kernel), nI_bv]
    simp
  rw [Int32.toBitVec_or, e1, nI_bv, nI_bv]
  rw [← BitVec.add_eq_or_of_and_eq_zero]
  · rw [← BitVec.ofNat_add]
  · apply BitVec.eq_of_toNat_eq
    rw [BitVec.toNat_and, BitVec.toNat_ofNat, BitVec.toNat_ofNat, BitVec.toNat_ofNat]
    rw [show b % 2 ^ 32 = b from Nat.mod_eq_of_lt (by omega)]
    apply Nat.eq_of_testBit_eq
    intro i
    rw [Nat.testBit_and]
    by_cases hi : i < 8
    · have : (a * 256 % 2 ^ 32).testBit i = false := by
        rw [Nat.testBit_mod_two_pow, show a * 256 = a <<< 8 by rw [Nat.shiftLeft_eq]]
        rw [Nat.testBit_shiftLeft]
        simp
        omega
      simp [this]
    · have : b.testBit i = false := Nat.testBit_lt_two_pow (Nat.lt_of_lt_of_le hb (by
        have : 2 ^ 8 ≤ 2 ^ i := Nat.pow_le_pow_right (by decide) (by omega)
        simpa using this))
      simp [this]
