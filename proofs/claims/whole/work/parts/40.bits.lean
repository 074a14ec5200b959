/-! BITS -/
theorem bv_of {a : Nat} (h : a < 2147483648) : (Int32.ofInt (a : Int)).toBitVec.toNat = a := by
  rw [Int32.toBitVec_ofInt, BitVec.ofInt_natCast, BitVec.toNat_ofNat]
  exact Nat.mod_eq_of_lt (by omega)
theorem bv_to {x : Int32} {n : Nat} (h : x.toBitVec.toNat = n) (hn : n < 2147483648) : x.toInt = (n : Int) := by
  have h2 : x.toInt = x.toBitVec.toInt := rfl
  rw [h2, BitVec.toInt_eq_toNat_of_lt (by rw [h]; omega), h]
theorem zand_n {a b : Nat} (ha : a < 2147483648) (hb : b < 2147483648) : zand (a : Int) (b : Int) = ((a &&& b : Nat) : Int) := by
  unfold zand
  refine bv_to ?_ (Nat.lt_of_le_of_lt Nat.and_le_left ha)
  rw [Int32.toBitVec_and, BitVec.toNat_and, bv_of ha, bv_of hb]
theorem zor_n {a b : Nat} (ha : a < 2147483648) (hb : b < 2147483648) : zor (a : Int) (b : Int) = ((a ||| b : Nat) : Int) := by
  unfold zor
  refine bv_to ?_ (Nat.or_lt_two_pow (n := 31) ha hb)
  rw [Int32.toBitVec_or, BitVec.toNat_or, bv_of ha, bv_of hb]
theorem sm_of : ∀ k : Nat, k < 32 → ((Int32.ofInt (k : Int) &&& 31).toBitVec.smod 32).toNat = k := by decide +kernel
theorem zshl_n {a k : Nat} (ha : a < 2147483648) (hk : k < 32) (h : a <<< k < 2147483648) : zshl (a : Int) (k : Int) = ((a <<< k : Nat) : Int) := by
  unfold zshl
  refine bv_to ?_ h
  rw [Int32.toBitVec_shiftLeft, BitVec.shiftLeft_eq', sm_of k hk, BitVec.toNat_shiftLeft, bv_of ha]
  exact Nat.mod_eq_of_lt (by omega)
theorem zshr_n {a k : Nat} (ha : a < 2147483648) (hk : k < 32) : zshr (a : Int) (k : Int) = ((a >>> k : Nat) : Int) := by
  unfold zshr
  have hm : (Int32.ofInt (a : Int)).toBitVec.msb = false := by
    have e : (Int32.ofInt (a : Int)).toBitVec.msb = decide ((Int32.ofInt (a : Int)).toBitVec.toInt < 0) := BitVec.msb_eq_toInt
    have e2 : (Int32.ofInt (a : Int)).toBitVec.toInt = (a : Int) := zi_T (by omega) (by omega)
    rw [e, e2]
    exact decide_eq_false (by omega)
  refine bv_to ?_ (Nat.lt_of_le_of_lt (Nat.shiftRight_le a k) ha)
  rw [Int32.toBitVec_shiftRight]
  show (BitVec.sshiftRight _ _).toNat = _
  rw [sm_of k hk, BitVec.sshiftRight_eq_of_msb_false hm, BitVec.toNat_ushiftRight, bv_of ha]
theorem bit_n {a k : Nat} (ha : a < 2147483648) (hk : k < 32) : zand (zshr (a : Int) (k : Int)) 1 = if a.testBit k = true then 1 else 0 := by
  rw [zshr_n ha hk, show (1 : Int) = ((1 : Nat) : Int) from rfl, zand_n (Nat.lt_of_le_of_lt (Nat.shiftRight_le a k) ha) (by omega), Nat.and_one_is_mod]
  unfold Nat.testBit
  rw [Nat.one_and_eq_mod_two]
  have h := Nat.mod_two_eq_zero_or_one (a >>> k)
  rcases h with h | h <;> rw [h] <;> rfl
