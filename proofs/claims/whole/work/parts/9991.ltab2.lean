abbrev mZ_law : zM := (⟨"RoundLabLaw", "law", "([I)Z"⟩, code, 7, ret)
/-- the law's context: the class's and the script, of N ints xs, at the cell b -/
def zLc (l : Launch) (D : va_G) (ad : Nat → Nat) (cI cL : ClassId) (sz : Nat) (p : Program) (s : State) (m : MethodId) (args : Array Value) (meth : Method) (cd : Code) (b N : Nat) (xs : Nat → Int32) : Prop :=
  zC l D ad cI cL mZ_law sz p s m args meth cd ∧ va_X b N xs s s.heap ∧ b < s.heap.size ∧ ¬ zA ad sz b ∧ ad 104 = b
theorem zidx {j N r : Nat} (hr : r < 5) (hj : 5 * j + 5 ≤ N) (hN : N ≤ 2560) : vp_in (nI (5 * j) + nI r) N := by
  rw [nI_add]
  exact vp_in_nI (by omega) (by omega)
theorem zand15 (x : Int32) : ∃ c, c < 16 ∧ x &&& 15 = nI c := by
  have e : (x &&& 15).toBitVec = x.toBitVec &&& 15#32 := rfl
  have h : (x &&& 15).toBitVec.toNat < 16 := by
    rw [e, BitVec.toNat_and]
    exact Nat.and_lt_two_pow _ (by decide : (15#32).toNat < 2 ^ 4)
  refine ⟨(x &&& 15).toBitVec.toNat, h, ?_⟩
  apply Int32.toBitVec_inj.mp
  apply BitVec.eq_of_toNat_eq
  show _ = (BitVec.ofNat 32 _).toNat
  rw [BitVec.toNat_ofNat, Nat.mod_eq_of_lt (by omega)]
