/-! long numbers -/
def nJ (n : Nat) : Int64 := Int64.ofNat n
theorem nJ_b (n : Nat) : (nJ n).toBitVec = BitVec.ofNat 64 n := rfl
theorem nJ_or (a b : Nat) : nJ a ||| nJ b = nJ (a ||| b) := by
  refine Int64.toBitVec_inj.mp ?_
  rw [Int64.toBitVec_or, nJ_b, nJ_b, nJ_b]
  refine BitVec.eq_of_toNat_eq ?_
  rw [BitVec.toNat_or, BitVec.toNat_ofNat, BitVec.toNat_ofNat, BitVec.toNat_ofNat, Nat.or_mod_two_pow]
theorem nJ_and (a b : Nat) : nJ a &&& nJ b = nJ (a &&& b) := by
  refine Int64.toBitVec_inj.mp ?_
  rw [Int64.toBitVec_and, nJ_b, nJ_b, nJ_b]
  refine BitVec.eq_of_toNat_eq ?_
  rw [BitVec.toNat_and, BitVec.toNat_ofNat, BitVec.toNat_ofNat, BitVec.toNat_ofNat, Nat.and_mod_two_pow]
theorem nJ_15 (a : Nat) : nJ a &&& 15 = nJ (a % 16) := by
  rw [show (15 : Int64) = nJ 15 from rfl, nJ_and]
  congr 1
  exact Nat.and_two_pow_sub_one_eq_mod a 4
theorem nJ_sa (k : Nat) (h : k < 64) : (nI k).toInt64 &&& 63 = nJ k := by
  have key : ∀ k : Fin 64, (nI k.val).toInt64 &&& 63 = nJ k.val := by decide +kernel
  exact key ⟨k, h⟩
theorem nJ_sm (k : Nat) (h : k < 64) : ((nJ k).toBitVec.smod 64).toNat = k := by
  have key : ∀ k : Fin 64, ((nJ k.val).toBitVec.smod 64).toNat = k.val := by decide +kernel
  exact key ⟨k, h⟩
theorem nJ_shl (a k : Nat) (h : k < 64) : nJ a <<< ((nI k).toInt64 &&& 63) = nJ (a * 2 ^ k) := by
  rw [nJ_sa k h]
  refine Int64.toBitVec_inj.mp ?_
  rw [Int64.toBitVec_shiftLeft]
  refine BitVec.eq_of_toNat_eq ?_
  rw [BitVec.shiftLeft_eq', nJ_sm k h, BitVec.toNat_shiftLeft, nJ_b, nJ_b, BitVec.toNat_ofNat, BitVec.toNat_ofNat, Nat.shiftLeft_eq]
  simp [Nat.mod_mul_mod]
theorem nJ_msb {a : Nat} (h : a < 2 ^ 63) : (nJ a).toBitVec.msb = false := by
  rw [nJ_b, BitVec.msb_eq_false_iff_two_mul_lt, BitVec.toNat_ofNat, Nat.mod_eq_of_lt (by omega)]
  omega
theorem nJ_shr (a k : Nat) (ha : a < 2 ^ 63) (h : k < 64) : nJ a >>> ((nI k).toInt64 &&& 63) = nJ (a / 2 ^ k) := by
  rw [nJ_sa k h]
  refine Int64.toBitVec_inj.mp ?_
  rw [Int64.toBitVec_shiftRight]
  refine BitVec.eq_of_toNat_eq ?_
  rw [BitVec.sshiftRight_eq', nJ_sm k h, BitVec.sshiftRight_eq_of_msb_false (nJ_msb ha), BitVec.toNat_ushiftRight, nJ_b, nJ_b, BitVec.toNat_ofNat, BitVec.toNat_ofNat, Nat.mod_eq_of_lt (by omega), Nat.shiftRight_eq_div_pow, Nat.mod_eq_of_lt (Nat.lt_of_le_of_lt (Nat.div_le_self _ _) (by omega))]
theorem nJ_ushr (a k : Nat) (ha : a < 2 ^ 63) (h : k < 64) : ((nJ a).toUInt64 >>> ((nI k).toInt64.toUInt64 &&& Int64.toUInt64 63)).toInt64 = nJ (a / 2 ^ k) := by
  have key : ∀ k : Fin 64, ((nI k.val).toInt64.toUInt64 &&& Int64.toUInt64 63).toNat = k.val := by decide +kernel
  refine Int64.toBitVec_inj.mp ?_
  refine BitVec.eq_of_toNat_eq ?_
  show ((nJ a).toUInt64 >>> ((nI k).toInt64.toUInt64 &&& Int64.toUInt64 63)).toNat = _
  rw [UInt64.toNat_shiftRight, key ⟨k, h⟩, Nat.mod_eq_of_lt h, nJ_b, BitVec.toNat_ofNat]
  show (nJ a).toBitVec.toNat >>> k = _
  rw [nJ_b, BitVec.toNat_ofNat, Nat.mod_eq_of_lt (by omega), Nat.shiftRight_eq_div_pow, Nat.mod_eq_of_lt (Nat.lt_of_le_of_lt (Nat.div_le_self _ _) (by omega))]
theorem nJ_l2i (a : Nat) : (nJ a).toInt32 = nI a := by
  refine Int32.toBitVec_inj.mp ?_
  rw [Int64.toBitVec_toInt32, nJ_b]
  refine BitVec.eq_of_toNat_eq ?_
  show _ = (BitVec.ofNat 32 a).toNat
  rw [BitVec.signExtend_eq_setWidth_of_le _ (by decide), BitVec.toNat_setWidth, BitVec.toNat_ofNat, BitVec.toNat_ofNat]
  omega
theorem nJ_i2l {a : Nat} (h : a < 2 ^ 31) : (nI a).toInt64 = nJ a := by
  refine Int64.toInt_inj.mp ?_
  rw [Int32.toInt_toInt64]
  show (Int32.ofNat a).toInt = (Int64.ofNat a).toInt
  rw [Int32.toInt_ofNat_of_lt (by omega), Int64.toInt_ofNat_of_lt (by omega)]
theorem nJ_inj {a b : Nat} (ha : a < 2 ^ 63) (hb : b < 2 ^ 63) (e : nJ a = nJ b) : a = b := by
  have e2 := congrArg (fun x => x.toBitVec.toNat) e
  simp only [nJ_b, BitVec.toNat_ofNat] at e2
  omega
theorem lg0 (x y : Int64) : lg_cmp x y = 0 ↔ x = y := by
  unfold lg_cmp
  constructor
  · intro q
    by_cases h1 : y < x
    · simp [h1] at q
    · by_cases h2 : x = y
      · exact h2
      · simp [h1, h2] at q
  · intro q
    subst q
    simp
