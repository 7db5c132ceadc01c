/-! sets of processes: how class and reference say it -/
theorem hset_C {np : Nat} (h7 : np ≤ 7) (s : Int32) : s &&& (nI (2 ^ np - 1) ^^^ -1) = 0 ↔ ∃ k, k < 2 ^ np ∧ s = nI k := by
  constructor
  · intro h
    have hb := congrArg Int32.toBitVec h
    rw [Int32.toBitVec_and, Int32.toBitVec_xor] at hb
    have e : s.toBitVec &&& (nI (2 ^ np - 1)).toBitVec = s.toBitVec := by
      refine BitVec.eq_of_getLsbD_eq (fun i hi => ?_)
      have hi' := congrArg (fun x => x.getLsbD i) hb
      simp only [BitVec.getLsbD_and, BitVec.getLsbD_xor] at hi' ⊢
      rw [show (-1 : Int32).toBitVec = BitVec.allOnes 32 from rfl, BitVec.getLsbD_allOnes, show (0 : Int32).toBitVec = 0#32 from rfl, BitVec.getLsbD_zero, decide_eq_true hi] at hi'
      revert hi'
      cases s.toBitVec.getLsbD i <;> cases (nI (2 ^ np - 1)).toBitVec.getLsbD i <;> simp
    have p := pow7 h7
    have en := congrArg BitVec.toNat e
    rw [BitVec.toNat_and, show (nI (2 ^ np - 1)).toBitVec.toNat = 2 ^ np - 1 by
      show (BitVec.ofNat 32 (2 ^ np - 1)).toNat = _
      rw [BitVec.toNat_ofNat, Nat.mod_eq_of_lt (by omega)], Nat.and_two_pow_sub_one_eq_mod] at en
    have hl : s.toBitVec.toNat < 2 ^ np := by rw [← en]; exact Nat.mod_lt _ (by omega)
    refine ⟨s.toBitVec.toNat, hl, Int32.toBitVec_inj.mp (BitVec.eq_of_toNat_eq ?_)⟩
    show _ = (BitVec.ofNat 32 s.toBitVec.toNat).toNat
    rw [BitVec.toNat_ofNat, Nat.mod_eq_of_lt s.toBitVec.isLt]
  · rintro ⟨k, hk, rfl⟩
    have p := pow7 h7
    have key : ∀ np : Fin 8, ∀ k : Fin 128, k.val < 2 ^ np.val → nI k.val &&& (nI (2 ^ np.val - 1) ^^^ -1) = 0 := by decide +kernel
    exact key ⟨np, by omega⟩ ⟨k, by omega⟩ hk
theorem nI_sa (k : Nat) (h : k < 32) : ((nI k &&& 31).toBitVec.smod 32).toNat = k := by
  have key : ∀ k : Fin 32, ((nI k.val &&& 31).toBitVec.smod 32).toNat = k.val := by decide +kernel
  exact key ⟨k, h⟩
theorem nI_shr (a k : Nat) (ha : a < 2 ^ 31) (h : k < 32) : nI a >>> (nI k &&& 31) = nI (a / 2 ^ k) := by
  have msb : (nI a).toBitVec.msb = false := by
    show (BitVec.ofNat 32 a).msb = false
    rw [BitVec.msb_eq_false_iff_two_mul_lt, BitVec.toNat_ofNat, Nat.mod_eq_of_lt (by omega)]
    omega
  refine Int32.toBitVec_inj.mp ?_
  rw [Int32.toBitVec_shiftRight]
  refine BitVec.eq_of_toNat_eq ?_
  rw [BitVec.sshiftRight_eq', nI_sa k h, BitVec.sshiftRight_eq_of_msb_false msb, BitVec.toNat_ushiftRight]
  show (BitVec.ofNat 32 a).toNat >>> k = (BitVec.ofNat 32 (a / 2 ^ k)).toNat
  rw [BitVec.toNat_ofNat, BitVec.toNat_ofNat, Nat.mod_eq_of_lt (by omega), Nat.shiftRight_eq_div_pow, Nat.mod_eq_of_lt (Nat.lt_of_le_of_lt (Nat.div_le_self _ _) (by omega))]
theorem hset_M {np : Nat} (h7 : np ≤ 7) (s : Int32) : (¬ s < 0 ∧ s >>> (nI np &&& 31) = 0) ↔ ∃ k, k < 2 ^ np ∧ s = nI k := by
  constructor
  · rintro ⟨h1, h2⟩
    rw [Int32.lt_iff_toInt_lt, show (0 : Int32).toInt = 0 from rfl] at h1
    have hlt := s.toInt_lt
    have es : s = nI s.toInt.toNat := by
      rw [← Int32.toInt_inj, nI_toInt (by omega)]
      omega
    rw [es, nI_shr _ np (by omega) (by omega)] at h2
    have hd : s.toInt.toNat / 2 ^ np = 0 := nI_inj (Nat.lt_of_le_of_lt (Nat.div_le_self _ _) (by omega)) (by decide) (show nI (s.toInt.toNat / 2 ^ np) = nI 0 from h2)
    have p := pow7 h7
    exact ⟨s.toInt.toNat, by rcases Nat.div_eq_zero_iff.mp hd with z | z <;> omega, es⟩
  · rintro ⟨k, hk, rfl⟩
    have p := pow7 h7
    refine ⟨zm1p (by omega), ?_⟩
    rw [nI_shr k np (by omega) (by omega), Nat.div_eq_of_lt hk]
    rfl
