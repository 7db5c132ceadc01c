/-! numbers that hold states: digits to the base 16 -/
def xD (K j : Nat) : Nat := K / 16 ^ j % 16
theorem xD_lt (K j : Nat) : xD K j < 16 := Nat.mod_lt _ (by decide)
def xM (f : Nat → Nat) (g : Nat) : Nat → Nat → Nat
  | 0, _ => g
  | k + 1, i => f i + 16 * xM f g k (i + 1)
def xK (f : Nat → Nat) (g : Nat) : Nat := xM f g 15 0
theorem xM_div {f : Nat → Nat} {g : Nat} (hf : ∀ j, f j < 16) : ∀ t k i, t ≤ k → xM f g k i / 16 ^ t = xM f g (k - t) (i + t) := by
  intro t
  induction t with
  | zero => intro k i _; simp
  | succ t ih =>
    intro k i ht
    rw [Nat.pow_succ, ← Nat.div_div_eq_div_mul, ih k i (by omega)]
    obtain ⟨m, hm⟩ : ∃ m, k - t = m + 1 := ⟨k - t - 1, by omega⟩
    rw [hm, show k - (t + 1) = m by omega]
    show (f (i + t) + 16 * xM f g m (i + t + 1)) / 16 = _
    have := hf (i + t)
    rw [show i + (t + 1) = i + t + 1 by omega]
    omega
theorem xD_K {f : Nat → Nat} {g j : Nat} (hf : ∀ j, f j < 16) (hj : j < 15) : xD (xK f g) j = f j := by
  unfold xD xK
  rw [xM_div hf j 15 0 (by omega), Nat.zero_add]
  obtain ⟨m, hm⟩ : ∃ m, 15 - j = m + 1 := ⟨15 - j - 1, by omega⟩
  rw [hm]
  show (f j + 16 * xM f g m (j + 1)) % 16 = f j
  have := hf j
  omega
theorem xK_top {f : Nat → Nat} {g : Nat} (hf : ∀ j, f j < 16) : xK f g / 16 ^ 15 = g := by
  unfold xK
  rw [xM_div hf 15 15 0 (by omega)]
  rfl
theorem xK_lt {f : Nat → Nat} {g : Nat} (hf : ∀ j, f j < 16) (hg : g < 8) : xK f g < 2 ^ 63 := by
  have h1 := xK_top (g := g) hf
  have h2 := Nat.div_add_mod (xK f g) (16 ^ 15)
  have h3 := Nat.mod_lt (xK f g) (show 0 < 16 ^ 15 by decide)
  rw [h1] at h2
  omega
theorem xD_ext {K1 K2 : Nat} (h : K1 / 16 ^ 15 = K2 / 16 ^ 15) (hd : ∀ j, j < 15 → xD K1 j = xD K2 j) : K1 = K2 := by
  have key : ∀ k, k ≤ 15 → K1 / 16 ^ (15 - k) = K2 / 16 ^ (15 - k) := by
    intro k
    induction k with
    | zero => intro _; exact h
    | succ k ih =>
      intro hk
      have e := ih (by omega)
      have dj := hd (15 - (k + 1)) (by omega)
      unfold xD at dj
      rw [show 15 - k = 15 - (k + 1) + 1 by omega, Nat.pow_succ, ← Nat.div_div_eq_div_mul, ← Nat.div_div_eq_div_mul] at e
      generalize K1 / 16 ^ (15 - (k + 1)) = a at e dj ⊢
      generalize K2 / 16 ^ (15 - (k + 1)) = b at e dj ⊢
      omega
  have := key 15 (by omega)
  simpa using this
theorem xD_or (a b j : Nat) : xD (a ||| b) j = xD a j ||| xD b j := by
  unfold xD
  rw [show 16 ^ j = 2 ^ (4 * j) by rw [Nat.pow_mul], ← Nat.shiftRight_eq_div_pow, ← Nat.shiftRight_eq_div_pow, ← Nat.shiftRight_eq_div_pow, Nat.shiftRight_or_distrib, show 16 = 2 ^ 4 from rfl, Nat.or_mod_two_pow]
theorem xtop_or (a b : Nat) : (a ||| b) / 16 ^ 15 = a / 16 ^ 15 ||| b / 16 ^ 15 := by
  rw [show 16 ^ 15 = 2 ^ 60 from rfl, ← Nat.shiftRight_eq_div_pow, ← Nat.shiftRight_eq_div_pow, ← Nat.shiftRight_eq_div_pow, Nat.shiftRight_or_distrib]
theorem xD_one {a i j : Nat} (ha : a < 16) : xD (a * 16 ^ i) j = if j = i then a else 0 := by
  unfold xD
  by_cases h : j = i
  · rw [if_pos h, h, Nat.mul_div_cancel _ (Nat.pow_pos (by decide))]; omega
  · rw [if_neg h]
    by_cases h1 : j < i
    · obtain ⟨k, rfl⟩ : ∃ k, i = j + 1 + k := ⟨i - j - 1, by omega⟩
      rw [show a * 16 ^ (j + 1 + k) = a * 16 ^ k * 16 * 16 ^ j by rw [Nat.pow_add, Nat.pow_succ]; ac_rfl, Nat.mul_div_cancel _ (Nat.pow_pos (by decide)), Nat.mul_mod_left]
    · obtain ⟨k, rfl⟩ : ∃ k, j = i + 1 + k := ⟨j - i - 1, by omega⟩
      rw [show 16 ^ (i + 1 + k) = 16 ^ i * (16 * 16 ^ k) by rw [Nat.pow_add, Nat.pow_succ]; ac_rfl, ← Nat.div_div_eq_div_mul, Nat.mul_div_cancel _ (Nat.pow_pos (by decide)), ← Nat.div_div_eq_div_mul, Nat.div_eq_of_lt ha]
      simp
theorem xtop_one {a i : Nat} (ha : a < 16) (hi : i < 15) : a * 16 ^ i / 16 ^ 15 = 0 := by
  refine Nat.div_eq_of_lt ?_
  have h1 : 16 ^ i ≤ 16 ^ 14 := Nat.pow_le_pow_right (by decide) (by omega)
  have h2 : a * 16 ^ i ≤ 15 * 16 ^ 14 := Nat.mul_le_mul (by omega) h1
  have h3 : 15 * 16 ^ 14 < 16 ^ 15 := by decide
  omega
/-- the reference's numbers: from the first digit on -/
def xRc (f : Nat → Nat) (g : Nat) : Nat → Nat
  | 0 => g
  | t + 1 => xRc f g t * 16 + f t
theorem xRc_lt {f : Nat → Nat} {g : Nat} (hg : g < 8) : ∀ t, (∀ j, j < t → f j < 16) → xRc f g t < 8 * 16 ^ t := by
  intro t
  induction t with
  | zero => intro _; show g < 8 * 1; omega
  | succ t ih =>
    intro hf
    have h1 := ih (fun j hj => hf j (by omega))
    have h2 := hf t (by omega)
    show xRc f g t * 16 + f t < 8 * 16 ^ (t + 1)
    rw [Nat.pow_succ]
    generalize 16 ^ t = q at h1 ⊢
    omega
theorem xRc_lt63 {f : Nat → Nat} {g t : Nat} (hg : g < 8) (hf : ∀ j, j < t → f j < 16) (ht : t ≤ 15) : xRc f g t < 2 ^ 63 := by
  have h1 := xRc_lt hg t hf
  have h2 : 16 ^ t ≤ 16 ^ 15 := Nat.pow_le_pow_right (by decide) ht
  have h3 : 8 * 16 ^ 15 = 2 ^ 63 := by decide
  omega
theorem xRc_div {f : Nat → Nat} {g t : Nat} : ∀ k, (∀ j, j < t + k → f j < 16) → xRc f g (t + k) / 16 ^ k = xRc f g t := by
  intro k
  induction k with
  | zero => intro _; simp
  | succ k ih =>
    intro hf
    have h2 := hf (t + k) (by omega)
    rw [Nat.pow_succ, Nat.mul_comm, ← Nat.div_div_eq_div_mul]
    show (xRc f g (t + k) * 16 + f (t + k)) / 16 / 16 ^ k = _
    rw [show (xRc f g (t + k) * 16 + f (t + k)) / 16 = xRc f g (t + k) by omega]
    exact ih (fun j hj => hf j (by omega))
theorem xRc_dig {f : Nat → Nat} {g t k : Nat} (hf : ∀ j, j < t + 1 + k → f j < 16) : xRc f g (t + 1 + k) / 16 ^ k % 16 = f t := by
  rw [xRc_div k hf]
  show (xRc f g t * 16 + f t) % 16 = f t
  have := hf t (by omega)
  omega
theorem xRc_inj {f f' : Nat → Nat} {g g' : Nat} : ∀ t, (∀ j, j < t → f j < 16) → (∀ j, j < t → f' j < 16) → xRc f g t = xRc f' g' t → g = g' ∧ ∀ j, j < t → f j = f' j := by
  intro t
  induction t with
  | zero => intro _ _ h; exact ⟨h, fun j hj => absurd hj (Nat.not_lt_zero j)⟩
  | succ t ih =>
    intro h1 h2 h
    have q1 := h1 t (by omega)
    have q2 := h2 t (by omega)
    have h' : xRc f g t * 16 + f t = xRc f' g' t * 16 + f' t := h
    obtain ⟨e1, e2⟩ := ih (fun j hj => h1 j (by omega)) (fun j hj => h2 j (by omega)) (by omega)
    refine ⟨e1, fun j hj => ?_⟩
    by_cases q : j = t
    · subst q; omega
    · exact e2 j (by omega)
theorem xRc_congr {f f' : Nat → Nat} {g : Nat} : ∀ t, (∀ j, j < t → f j = f' j) → xRc f g t = xRc f' g t := by
  intro t
  induction t with
  | zero => intro _; rfl
  | succ t ih =>
    intro h
    show xRc f g t * 16 + f t = xRc f' g t * 16 + f' t
    rw [ih (fun j hj => h j (by omega)), h t (by omega)]
/-- the place of the t-th number that the reference takes -/
def xT (vars t : Nat) : Nat := 5 * (t / vars) + t % vars
theorem xT_pv {vars p v : Nat} (hv : v < vars) : xT vars (p * vars + v) = 5 * p + v := by
  unfold xT
  rw [Nat.mul_comm p vars, Nat.mul_add_div (by omega), Nat.div_eq_of_lt hv, Nat.mul_add_mod, Nat.mod_eq_of_lt hv, Nat.add_zero]
theorem xpv {np vars p v : Nat} (hp : p < np) (hv : v < vars) : p * vars + v < np * vars := by
  have : (p + 1) * vars ≤ np * vars := Nat.mul_le_mul_right _ hp
  rw [Nat.succ_mul] at this
  omega
theorem xT15 {np vars t : Nat} (hn : np ≤ 3) (hv : vars ≤ 5) (ht : t < np * vars) : xT vars t < 15 ∧ t / vars < np ∧ t % vars < vars := by
  have h0 : 0 < vars := by
    rcases Nat.eq_zero_or_pos vars with z | z
    · rw [z] at ht; omega
    · exact z
  have h1 : t / vars < np := Nat.div_lt_of_lt_mul (by rw [Nat.mul_comm]; exact ht)
  have h2 : t % vars < vars := Nat.mod_lt _ h0
  unfold xT
  omega
/-- the reference's number of a state -/
def xR (np vars K : Nat) : Nat := xRc (fun t => xD K (xT vars t)) (K / 16 ^ 15) (np * vars)
/-- a state of few processes: nothing but what is in use -/
def xOk (np vars K : Nat) : Prop := K < 2 ^ 63 ∧ ∀ j, j < 15 → ¬ (j / 5 < np ∧ j % 5 < vars) → xD K j = 0
theorem xR_inj {np vars K1 K2 : Nat} (h1 : xOk np vars K1) (h2 : xOk np vars K2) (e : xR np vars K1 = xR np vars K2) : K1 = K2 := by
  obtain ⟨eg, ed⟩ := xRc_inj _ (fun j _ => xD_lt _ _) (fun j _ => xD_lt _ _) e
  refine xD_ext eg (fun j hj => ?_)
  by_cases q : j / 5 < np ∧ j % 5 < vars
  · have := ed (j / 5 * vars + j % 5) (xpv q.1 q.2)
    rw [xT_pv q.2, Nat.div_add_mod] at this
    exact this
  · rw [h1.2 j hj q, h2.2 j hj q]
theorem xR_lt {np vars K : Nat} (hn : np ≤ 3) (hv : vars ≤ 5) (hK : K < 2 ^ 63) : xR np vars K < 2 ^ 63 := by
  refine xRc_lt63 ?_ (fun j _ => xD_lt _ _) ?_
  · refine Nat.div_lt_of_lt_mul ?_
    rw [show 16 ^ 15 * 8 = 2 ^ 63 by decide]; exact hK
  · exact Nat.le_trans (Nat.mul_le_mul hn hv) (by decide)
