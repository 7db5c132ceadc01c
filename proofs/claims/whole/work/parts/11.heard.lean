/-! THE PICTURE: what a process learns of those that it hears -/
def fB (s : Int32) (p : Nat) : Int32 := (s >>> (nI p &&& 31)) &&& 1
theorem fB_01 (s : Int32) (p : Nat) : fB s p = 0 ∨ fB s p = 1 := by
  have h := pk_and (s >>> (nI p &&& 31)) (m := 1) 1 (by decide)
  unfold fB
  rw [h]
  have h2 : (s >>> (nI p &&& 31)).toBitVec.toNat % 2 ^ 1 < 2 := Nat.mod_lt _ (by decide)
  generalize (s >>> (nI p &&& 31)).toBitVec.toNat % 2 ^ 1 = k at h2
  have : k = 0 ∨ k = 1 := by omega
  rcases this with rfl | rfl
  · exact Or.inl rfl
  · exact Or.inr rfl
/-- a set of the first n processes holds no other -/
theorem fB_out {k n p : Nat} (hk : k < 2 ^ n) (hn : n ≤ p) (hp : p < 7) : fB (nI k) p = 0 := by
  have hk7 : k < 2 ^ p := Nat.lt_of_lt_of_le hk (Nat.pow_le_pow_right (by decide) hn)
  have key : ∀ p : Fin 7, ∀ k : Fin 128, k.val < 2 ^ p.val → fB (nI k.val) p.val = 0 := by decide +kernel
  have hk128 : k < 128 := Nat.lt_of_lt_of_le hk7 (by
    have : 2 ^ p ≤ 2 ^ 7 := Nat.pow_le_pow_right (by decide) (by omega)
    simpa using this)
  exact key ⟨p, hp⟩ ⟨k, hk128⟩ hk7
/-- how many of the first n are heard with the message v; how many are heard -/
def fTm (m : Nat → Int32) (s v : Int32) : Nat → Nat
  | 0 => 0
  | p + 1 => fTm m s v p + (if fB s p = 1 ∧ m p = v then 1 else 0)
def fHd (s : Int32) : Nat → Nat
  | 0 => 0
  | p + 1 => fHd s p + (if fB s p = 1 then 1 else 0)
/-- the least, the greatest, the most frequent (the least of these) among the first n; -1: none is heard -/
def fMin (m : Nat → Int32) (s : Int32) : Nat → Int32
  | 0 => -1
  | p + 1 => if fB s p = 1 ∧ (fMin m s p = -1 ∨ m p < fMin m s p) then m p else fMin m s p
def fMax (m : Nat → Int32) (s : Int32) : Nat → Int32
  | 0 => -1
  | p + 1 => if fB s p = 1 ∧ (fMax m s p = -1 ∨ fMax m s p < m p) then m p else fMax m s p
def fMost (m : Nat → Int32) (s : Int32) (n : Nat) : Nat → Int32
  | 0 => -1
  | p + 1 => if fB s p = 1 ∧ (fMost m s n p = -1 ∨ fTm m s (fMost m s n p) n < fTm m s (m p) n ∨ fTm m s (m p) n = fTm m s (fMost m s n p) n ∧ m p < fMost m s n p) then m p else fMost m s n p
/-- -1 becomes 0 -/
def fZ (x : Int32) : Int32 := if x = -1 then 0 else x
theorem fTm_le (m : Nat → Int32) (s v : Int32) : ∀ n, fTm m s v n ≤ n
  | 0 => Nat.le_refl _
  | n + 1 => by
    have := fTm_le m s v n
    simp only [fTm]
    split <;> omega
theorem fHd_le (s : Int32) : ∀ n, fHd s n ≤ n
  | 0 => Nat.le_refl _
  | n + 1 => by
    have := fHd_le s n
    simp only [fHd]
    split <;> omega
/-- the processes from n on are not heard: they change nothing -/
theorem fTm_out {m : Nat → Int32} {k n : Nat} {v : Int32} (hk : k < 2 ^ n) : ∀ j, n + j ≤ 7 → fTm m (nI k) v (n + j) = fTm m (nI k) v n
  | 0, _ => rfl
  | j + 1, h => by
    rw [← Nat.add_assoc]
    simp only [fTm]
    rw [fB_out hk (by omega) (by omega), fTm_out hk j (by omega)]
    simp
theorem fHd_out {k n : Nat} (hk : k < 2 ^ n) : ∀ j, n + j ≤ 7 → fHd (nI k) (n + j) = fHd (nI k) n
  | 0, _ => rfl
  | j + 1, h => by
    rw [← Nat.add_assoc]
    simp only [fHd]
    rw [fB_out hk (by omega) (by omega), fHd_out hk j (by omega)]
    simp
theorem fMin_out {m : Nat → Int32} {k n : Nat} (hk : k < 2 ^ n) : ∀ j, n + j ≤ 7 → fMin m (nI k) (n + j) = fMin m (nI k) n
  | 0, _ => rfl
  | j + 1, h => by
    rw [← Nat.add_assoc]
    simp only [fMin]
    rw [fB_out hk (by omega) (by omega), fMin_out hk j (by omega)]
    simp
theorem fMax_out {m : Nat → Int32} {k n : Nat} (hk : k < 2 ^ n) : ∀ j, n + j ≤ 7 → fMax m (nI k) (n + j) = fMax m (nI k) n
  | 0, _ => rfl
  | j + 1, h => by
    rw [← Nat.add_assoc]
    simp only [fMax]
    rw [fB_out hk (by omega) (by omega), fMax_out hk j (by omega)]
    simp
theorem fMost_out {m : Nat → Int32} {k n N : Nat} (hk : k < 2 ^ n) : ∀ j, n + j ≤ 7 → fMost m (nI k) N (n + j) = fMost m (nI k) N n
  | 0, _ => rfl
  | j + 1, h => by
    rw [← Nat.add_assoc]
    simp only [fMost]
    rw [fB_out hk (by omega) (by omega), fMost_out hk j (by omega)]
    simp
theorem fMost_N {m : Nat → Int32} {s : Int32} {N N' : Nat} (h : ∀ v, fTm m s v N = fTm m s v N') : ∀ n, fMost m s N n = fMost m s N' n
  | 0 => rfl
  | n + 1 => by
    simp only [fMost]
    rw [fMost_N h n]
    simp only [h]
