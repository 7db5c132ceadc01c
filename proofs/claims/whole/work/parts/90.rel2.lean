/-! class and reference side by side: a word more -/
theorem zRel_word {h : zH} {n : Nat} {w : Int32} (hr : zRel h) (hm : h.1 1 3 = nI n) (hn : n < 400) : zRel (zput (zput (zput (zput (zput (zput (zput (zput (zput (zput h 2 n w) 1 3 (nI (n + 1))) 1 4 0) 9 2 0) 6 2 0) 27 0 0) 28 n w) 27 1 (nI (n + 1))) 27 3 0) 27 10 0) := by
  obtain ⟨n', np, r, len, ck, a1, a2, a3, a4, a5, a6, a7, a8, a9, b1, b2, b3, b4, b5, b6, b7, c1, c2, c3, c4, c5, c6⟩ := hr
  have o : ∀ a j, a ≠ 1 → a ≠ 2 → a ≠ 28 → a ≠ 6 → a ≠ 9 → ¬ (a = 27 ∧ (j = 0 ∨ j = 1 ∨ j = 3 ∨ j = 10)) → (zput (zput (zput (zput (zput (zput (zput (zput (zput (zput h 2 n w) 1 3 (nI (n + 1))) 1 4 0) 9 2 0) 6 2 0) 27 0 0) 28 n w) 27 1 (nI (n + 1))) 27 3 0) 27 10 0).1 a j = h.1 a j := by
    intro a j k1 k2 k3 k4 k5 k6
    simp only [zp1]
    rw [if_neg (by omega), if_neg (by omega), if_neg (by omega), if_neg (by omega), if_neg (by omega), if_neg (by omega), if_neg (by omega), if_neg (by omega), if_neg (by omega), if_neg (by omega)]
  refine ⟨n + 1, 0, 0, len, false, by omega, by simp [zp1], by simp [zp1], ?_, by simp [zp1]; rfl, by simp [zp1]; rfl, ?_, ?_, by simp [zp1]; rfl, by simp [zp1]; rfl, by decide, by simp [zp1]; rfl, by decide, fun _ => rfl, fun z => absurd z (by decide), fun z => absurd z (by decide), ?_, ?_, ?_, ?_, c5, ?_⟩
  · funext j
    have e := congrFun a4 j
    simp [zp1, e]
  · intro p hp
    rw [o 5 p (by decide) (by decide) (by decide) (by decide) (by decide) (by omega), o 32 p (by decide) (by decide) (by decide) (by decide) (by decide) (by omega)]
    exact a7 p hp
  · intro i hi
    rw [o 11 i (by decide) (by decide) (by decide) (by decide) (by decide) (by omega), o 18 i (by decide) (by decide) (by decide) (by decide) (by decide) (by omega)]
    exact a8 i hi
  · rw [o 14 0 (by decide) (by decide) (by decide) (by decide) (by decide) (by omega), o 27 21 (by decide) (by decide) (by decide) (by decide) (by decide) (by omega)]; exact c1
  · rw [o 14 1 (by decide) (by decide) (by decide) (by decide) (by decide) (by omega), o 27 26 (by decide) (by decide) (by decide) (by decide) (by decide) (by omega)]; exact c2
  · rw [o 14 2 (by decide) (by decide) (by decide) (by decide) (by decide) (by omega)]; exact c3
  · rw [o 27 27 (by decide) (by decide) (by decide) (by decide) (by decide) (by omega)]; exact c4
  · intro j hj
    rw [o 15 j (by decide) (by decide) (by decide) (by decide) (by decide) (by omega), o 43 j (by decide) (by decide) (by decide) (by decide) (by decide) (by omega)]
    exact c6 j hj
