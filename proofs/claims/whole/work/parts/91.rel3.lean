/-! class and reference side by side: an input, and calls that only read -/
theorem zRel_cg {h H : zH} (hr : zRel h) (o : ∀ a j, a ≠ 5 → a ≠ 32 → ¬ (a = 27 ∧ j = 0) → H.1 a j = h.1 a j) (hi : ∀ p, p < 7 → H.1 5 p = H.1 32 p ∧ ∃ k, k ≤ 15 ∧ H.1 5 p = nI k) : zRel H := by
  have q : ∀ a, a ≠ 5 → a ≠ 32 → a ≠ 27 → H.1 a = h.1 a := fun a k1 k2 k3 => funext (fun j => o a j k1 k2 (by omega))
  have q27 : ∀ j, j ≠ 0 → H.1 27 j = h.1 27 j := fun j hj => o 27 j (by decide) (by decide) (by omega)
  obtain ⟨n, np, r, len, ck, a1, a2, a3, a4, a5, a6, a7, a8, a9, b1, b2, b3, b4, b5, b6, b7, c1, c2, c3, c4, c5, c6⟩ := hr
  refine ⟨n, np, r, len, ck, a1, ?_, ?_, ?_, ?_, ?_, hi, ?_, ?_, ?_, b2, ?_, b4, b5, ?_, ?_, ?_, ?_, ?_, ?_, c5, ?_⟩
  · rw [q 1 (by decide) (by decide) (by decide), a2]
  · rw [q27 1 (by decide), a3]
  · rw [q 2 (by decide) (by decide) (by decide), q 28 (by decide) (by decide) (by decide), a4]
  · rw [q 1 (by decide) (by decide) (by decide), a5]
  · rw [q27 3 (by decide), a6]
  · rw [q 11 (by decide) (by decide) (by decide), q 18 (by decide) (by decide) (by decide)]; exact a8
  · rw [q 9 (by decide) (by decide) (by decide), a9]
  · rw [q27 10 (by decide), b1]
  · rw [q 6 (by decide) (by decide) (by decide), b3]
  · rw [q27 11 (by decide)]; exact b6
  · intro hc
    obtain ⟨ph, vars, d1, d2, d3, d4, d5, d6⟩ := b7 hc
    refine ⟨ph, vars, by rw [q 2 (by decide) (by decide) (by decide), d1], by rw [q 2 (by decide) (by decide) (by decide), d2], by rw [q 2 (by decide) (by decide) (by decide), d3], zChk_cg (fun a j ha => o a j (by omega) (by omega) (by omega)) d4, zMck_congr (fun a j ha => o a j (by omega) (by omega) (by omega)) d5, ?_⟩
    rw [q 7 (by decide) (by decide) (by decide), q 33 (by decide) (by decide) (by decide), q 36 (by decide) (by decide) (by decide), q 11 (by decide) (by decide) (by decide), q 12 (by decide) (by decide) (by decide), q 34 (by decide) (by decide) (by decide)]
    exact d6
  · rw [q 14 (by decide) (by decide) (by decide), q27 21 (by decide)]; exact c1
  · rw [q 14 (by decide) (by decide) (by decide), q27 26 (by decide)]; exact c2
  · rw [q 14 (by decide) (by decide) (by decide)]; exact c3
  · rw [q27 27 (by decide)]; exact c4
  · rw [q 15 (by decide) (by decide) (by decide), q 43 (by decide) (by decide) (by decide)]; exact c6
