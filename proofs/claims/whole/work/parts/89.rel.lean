/-! class and reference side by side -/
def zRel (h : zH) : Prop := ∃ (n np r len : Nat) (ck : Bool), n ≤ 400 ∧ h.1 1 3 = nI n ∧ h.1 27 1 = nI n ∧ h.1 2 = h.1 28 ∧ h.1 1 4 = fBo ck ∧ h.1 27 3 = fBo ck ∧
  (∀ p, p < 7 → h.1 5 p = h.1 32 p ∧ ∃ k, k ≤ 15 ∧ h.1 5 p = nI k) ∧ (∀ i, i < 7 → fGood (h.1 11 i) ∧ fGood (h.1 18 i)) ∧
  h.1 9 2 = nI np ∧ h.1 27 10 = nI np ∧ np ≤ 7 ∧ h.1 6 2 = nI r ∧ r ≤ 60 ∧ (np = 0 → r = 0) ∧ (1 ≤ np → ck = true ∧ h.1 27 11 = nI r) ∧
  (ck = true → ∃ ph vars, h.1 2 0 = nI ph ∧ h.1 2 1 = nI vars ∧ fErr (h.1 2) n = -1 ∧ zChk h n ph vars ∧ zMck h n ph vars ∧
    (∀ p, p < np → h.1 7 p = h.1 33 p ∧ (∃ k, k < 2 ^ np ∧ h.1 7 p = nI k) ∧ (h.1 36 p = if r = 0 then -1 else h.1 11 p) ∧ ∀ v, v < vars → h.1 12 (5 * p + v) = h.1 34 (5 * p + v) ∧ fGood (h.1 12 (5 * p + v)))) ∧
  h.1 14 0 = h.1 27 21 ∧ h.1 14 1 = h.1 27 26 ∧ h.1 14 2 = nI len ∧ h.1 27 27 = nI len ∧ len ≤ 18 ∧ (∀ j, j < len → h.1 15 j = h.1 43 j)
/-- both have cleared -/
theorem zRel_clear {h : zH} (hr : zRel h) : zRel (zput (zput (zput (zput (zput (zput (zput (zput h 1 3 0) 1 4 0) 9 2 0) 6 2 0) 27 0 0) 27 1 0) 27 3 0) 27 10 0) := by
  obtain ⟨n, np, r, len, ck, a1, a2, a3, a4, a5, a6, a7, a8, a9, b1, b2, b3, b4, b5, b6, b7, c1, c2, c3, c4, c5, c6⟩ := hr
  have o : ∀ a j, a ≠ 1 → a ≠ 6 → a ≠ 9 → ¬ (a = 27 ∧ (j = 0 ∨ j = 1 ∨ j = 3 ∨ j = 10)) → (zput (zput (zput (zput (zput (zput (zput (zput h 1 3 0) 1 4 0) 9 2 0) 6 2 0) 27 0 0) 27 1 0) 27 3 0) 27 10 0).1 a j = h.1 a j := by
    intro a j k1 k2 k3 k4
    simp only [zp1]
    rw [if_neg (by omega), if_neg (by omega), if_neg (by omega), if_neg (by omega), if_neg (by omega), if_neg (by omega), if_neg (by omega), if_neg (by omega)]
  refine ⟨0, 0, 0, len, false, by decide, by simp [zp1]; rfl, by simp [zp1]; rfl, ?_, by simp [zp1]; rfl, by simp [zp1]; rfl, ?_, ?_, by simp [zp1]; rfl, by simp [zp1]; rfl, by decide, by simp [zp1]; rfl, by decide, fun _ => rfl, fun z => absurd z (by decide), fun z => absurd z (by decide), ?_, ?_, ?_, ?_, c5, ?_⟩
  · funext j
    rw [o 2 j (by decide) (by decide) (by decide) (by omega), o 28 j (by decide) (by decide) (by decide) (by omega), a4]
  · intro p hp
    rw [o 5 p (by decide) (by decide) (by decide) (by omega), o 32 p (by decide) (by decide) (by decide) (by omega)]
    exact a7 p hp
  · intro i hi
    rw [o 11 i (by decide) (by decide) (by decide) (by omega), o 18 i (by decide) (by decide) (by decide) (by omega)]
    exact a8 i hi
  · rw [o 14 0 (by decide) (by decide) (by decide) (by omega), o 27 21 (by decide) (by decide) (by decide) (by omega)]; exact c1
  · rw [o 14 1 (by decide) (by decide) (by decide) (by omega), o 27 26 (by decide) (by decide) (by decide) (by omega)]; exact c2
  · rw [o 14 2 (by decide) (by decide) (by decide) (by omega)]; exact c3
  · rw [o 27 27 (by decide) (by decide) (by decide) (by omega)]; exact c4
  · intro j hj
    rw [o 15 j (by decide) (by decide) (by decide) (by omega), o 43 j (by decide) (by decide) (by decide) (by omega)]
    exact c6 j hj
