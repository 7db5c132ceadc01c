/-! the picture of a search: ends and levels -/
theorem xGo_end {P : xP} {r lo i c : Nat} {s : xZ} (h : s.e ≠ none) : xGo P r lo i s c = s := by
  unfold xGo
  rw [if_pos h]
theorem xIn_end {P : xP} {r lo i : Nat} {s : xZ} {c : Nat} (h : (xIn P r lo i s c).e ≠ none) : ∀ k, xIn P r lo i s (c + k) = xIn P r lo i s c
  | 0 => rfl
  | k + 1 => by
    show xGo P r lo i (xIn P r lo i s (c + k)) (c + k) = _
    rw [xIn_end h k, xGo_end h]
theorem xIn_full {P : xP} {r lo i : Nat} {s : xZ} {c N : Nat} (h : (xIn P r lo i s c).e ≠ none) (hc : c ≤ N) : xIn P r lo i s N = xIn P r lo i s c := by
  obtain ⟨k, rfl⟩ : ∃ k, N = c + k := ⟨N - c, by omega⟩
  exact xIn_end h k
theorem xIn_id {P : xP} {r lo i : Nat} {s : xZ} (h : s.e ≠ none) (N : Nat) : xIn P r lo i s N = s := xIn_full (c := 0) h (Nat.zero_le N)
theorem xLv_full {P : xP} {r lo f : Nat} {s : xZ} {k N : Nat} (h : (xLv P r lo f s k).e ≠ none) (hk : k ≤ N) : xLv P r lo f s N = xLv P r lo f s k := by
  obtain ⟨m, rfl⟩ : ∃ m, N = k + m := ⟨N - k, by omega⟩
  clear hk
  induction m with
  | zero => rfl
  | succ m ih =>
    show xIn P r lo (f + (k + m)) (xLv P r lo f s (k + m)) (2 ^ (P.np * P.np)) = _
    rw [ih, xIn_id h]
theorem xRs_full {P : xP} {s : xZ} {r N : Nat} (h : (xRs P s r).1.e ≠ none) (hr : r ≤ N) : xRs P s N = xRs P s r := by
  obtain ⟨m, rfl⟩ : ∃ m, N = r + m := ⟨N - r, by omega⟩
  clear hr
  induction m with
  | zero => rfl
  | succ m ih =>
    show (if (xRs P s (r + m)).1.e ≠ none then xRs P s (r + m) else _) = _
    rw [ih, if_pos h]
theorem xRs_s {P : xP} {s : xZ} {r : Nat} (h : (xRs P s r).1.e = none) : xRs P s (r + 1) = (xLv P r (xRs P s r).1.n (xRs P s r).2 (xRs P s r).1 ((xRs P s r).1.n - (xRs P s r).2), (xRs P s r).1.n) := by
  show (if (xRs P s r).1.e ≠ none then xRs P s r else _) = _
  rw [if_neg (by rw [h]; simp)]
def xAns : Option (Option (Nat × Nat × Nat × Nat)) → Int32
  | none => 0
  | some none => -1
  | some (some (v, _)) => nI v
/-- a state that is found after l rounds -/
def xAt (n : Nat) (pa : Nat → Int32) : Nat → Nat → Prop
  | 0, j => j < n
  | l + 1, j => j < n ∧ ∃ q, q < 200 ∧ pa j = nI q ∧ xAt n pa l q
theorem xAt.lt {n : Nat} {pa : Nat → Int32} : ∀ {l j : Nat}, xAt n pa l j → j < n
  | 0, _, h => h
  | _ + 1, _, h => h.1
theorem xAt.put {n : Nat} {pa : Nat → Int32} {a : Int32} : ∀ {l j : Nat}, xAt n pa l j → xAt (n + 1) (fun j => if j = n then a else pa j) l j
  | 0, _, h => Nat.lt_succ_of_lt h
  | l + 1, j, h => by
    obtain ⟨h1, q, h2, h3, h4⟩ := h
    refine ⟨Nat.lt_succ_of_lt h1, q, h2, ?_, xAt.put h4⟩
    show (if j = n then a else pa j) = nI q
    rw [if_neg (by omega), h3]
theorem wI_at {n : Nat} {pa : Nat → Int32} {co : Nat → Nat} {i c : Nat} (hn : n ≤ 200) : ∀ (k l : Nat), xAt n pa (k + l) i → ∃ q, q < n ∧ (wI pa co i c k).1 = nI q ∧ xAt n pa l q
  | 0, l, h => ⟨i, by rw [Nat.zero_add] at h; exact h.lt, rfl, by rw [Nat.zero_add] at h; exact h⟩
  | k + 1, l, h => by
    obtain ⟨q, h1, h2, h3⟩ := wI_at (co := co) (c := c) hn k (l + 1) (by rw [show k + (l + 1) = k + 1 + l by omega]; exact h)
    obtain ⟨-, q', g2, g3, g4⟩ := h3
    refine ⟨q', g4.lt, ?_, g4⟩
    show pa _ = _
    rw [h2, nI_clamp (by omega), g3]
def xIv (f lo r : Nat) (s : xZ) : Prop := f ≤ lo ∧ lo ≤ s.n ∧ s.n ≤ 200 ∧ (∀ j, f ≤ j → j < lo → xAt s.n s.pa r j) ∧ (∀ j, lo ≤ j → j < s.n → xAt s.n s.pa (r + 1) j)
theorem xTry_iv {f lo r i K c : Nat} {s : xZ} (h : xIv f lo r s) (h1 : f ≤ i) (h2 : i < lo) : xIv f lo r (xTry lo K (nI i) c s) := by
  obtain ⟨a1, a2, a3, a4, a5⟩ := id h
  unfold xTry
  by_cases hh : xHas s lo K
  · rw [if_pos hh]; exact h
  · rw [if_neg hh]
    by_cases hn : s.n = 200
    · rw [if_pos hn]; exact h
    · rw [if_neg hn]
      refine ⟨a1, Nat.le_succ_of_le a2, by show s.n + 1 ≤ 200; omega, fun j j1 j2 => (a4 j j1 j2).put, fun j j1 j2 => ?_⟩
      have j2' : j < s.n + 1 := j2
      by_cases e : j = s.n
      · refine ⟨j2', i, by omega, ?_, (a4 i h1 h2).put⟩
        show (if j = s.n then nI i else s.pa j) = nI i
        rw [if_pos e]
      · exact (a5 j j1 (by omega)).put
theorem xGo_iv {P : xP} {f lo r i c : Nat} {s : xZ} (h : xIv f lo r s) (h1 : f ≤ i) (h2 : i < lo) : xIv f lo r (xGo P r lo i s c) := by
  unfold xGo
  split
  · exact h
  · split
    · exact h
    · split
      · exact h
      · exact xTry_iv h h1 h2
theorem xTry_e {lo K c : Nat} {pa : Int32} {s : xZ} (h : s.e = none) : (xTry lo K pa c s).e = none ∨ (xTry lo K pa c s).e = some none := by
  unfold xTry
  by_cases hh : xHas s lo K
  · rw [if_pos hh]; exact Or.inl h
  · rw [if_neg hh]
    by_cases hn : s.n = 200
    · rw [if_pos hn]; exact Or.inr rfl
    · rw [if_neg hn]; exact Or.inl h
theorem xVi_lt (D E : Nat → Nat) (g np : Nat) : xVi D E g np ≤ 3 := by
  unfold xVi
  split
  · omega
  · split
    · omega
    · split <;> omega
theorem x2nn {np : Nat} (hn : np ≤ 3) : (1 : Int32) <<< ((nI np * nI np) &&& 31) = nI (2 ^ (np * np)) ∧ 2 ^ (np * np) ≤ 512 := by
  have key : ∀ np : Fin 4, (1 : Int32) <<< ((nI np.val * nI np.val) &&& 31) = nI (2 ^ (np.val * np.val)) ∧ 2 ^ (np.val * np.val) ≤ 512 := by decide +kernel
  exact key ⟨np, by omega⟩
/-- a run to a violation, as it is told -/
def zPath (np : Nat) (pa : Nat → Int32) (co : Nat → Nat) (i c R : Nat) (f : Nat → Int32) : Prop := (∀ r p, 1 ≤ r → r ≤ R → p < np → f (np * r + p) = nI (xSt np (wI pa co i c (R - r)).2 p)) ∧ (∀ p, p < np → f p = nI ((wI pa co i c R).2 / 4 ^ (np - 1 - p) % 4))
/-- what stands after a search: the rounds, the length and the numbers -/
def zEnd (P : xP) (s : xZ) (old : Nat → Int32) (a b : Int32) (f : Nat → Int32) : Prop := match s.e with
  | some (some (_, i, c, R)) => a = nI R ∧ b = nI (P.np * (R + 1)) ∧ R ≤ 5 ∧ zPath P.np s.pa s.co i c R f
  | _ => a = -1 ∧ b = 0 ∧ ∀ j, f j = old j
def zMSe (P : xP) (s : xZ) (h h' : zH) : Prop := zMl P s h' ∧ (∀ a j, ¬ (a = 27 ∧ (j = 16 ∨ j = 17 ∨ j = 18 ∨ j = 21 ∨ j = 26 ∨ j = 27)) → a ≠ 33 → a ≠ 34 → a ≠ 35 → a ≠ 36 → a ≠ 37 → a ≠ 40 → a ≠ 41 → a ≠ 42 → a ≠ 43 → h'.1 a j = h.1 a j) ∧ (∀ a j, a ≠ 39 → h'.2 a j = h.2 a j) ∧ zEnd P s (h.1 43) (h'.1 27 26) (h'.1 27 27) (h'.1 43)
