/-! calls of the law: the program is changed, or looked through -/
theorem zRel_end {h H : zH} (hr : zRel h) (n : Nat) (ck : Bool) (hn : n ≤ 400) (e1 : H.1 1 3 = nI n) (e2 : H.1 27 1 = nI n) (e3 : H.1 2 = H.1 28) (e4 : H.1 1 4 = fBo ck) (e5 : H.1 27 3 = fBo ck) (e6 : H.1 9 2 = 0) (e7 : H.1 27 10 = 0) (e8 : H.1 6 2 = 0)
    (hck : ck = true → ∃ ph vars, H.1 2 0 = nI ph ∧ H.1 2 1 = nI vars ∧ fErr (H.1 2) n = -1 ∧ zChk H n ph vars ∧ zMck H n ph vars)
    (o : ∀ a j, (a = 5 ∨ a = 32 ∨ a = 11 ∨ a = 18 ∨ a = 14 ∨ a = 15 ∨ a = 43 ∨ (a = 27 ∧ (j = 21 ∨ j = 26 ∨ j = 27))) → H.1 a j = h.1 a j) : zRel H := by
  obtain ⟨n', np, r, len, ck', a1, a2, a3, a4, a5, a6, a7, a8, a9, b1, b2, b3, b4, b5, b6, b7, c1, c2, c3, c4, c5, c6⟩ := hr
  refine ⟨n, 0, 0, len, ck, hn, e1, e2, e3, e4, e5, ?_, ?_, e6, e7, by decide, e8, by decide, fun _ => rfl, fun z => absurd z (by decide), ?_, ?_, ?_, ?_, ?_, c5, ?_⟩
  · intro p hp
    rw [o 5 p (by omega), o 32 p (by omega)]
    exact a7 p hp
  · intro i hi
    rw [o 11 i (by omega), o 18 i (by omega)]
    exact a8 i hi
  · intro z
    obtain ⟨ph, vars, d1, d2, d3, d4, d5⟩ := hck z
    exact ⟨ph, vars, d1, d2, d3, d4, d5, fun p hp => absurd hp (Nat.not_lt_zero p)⟩
  · rw [o 14 0 (by omega), o 27 21 (by omega)]; exact c1
  · rw [o 14 1 (by omega), o 27 26 (by omega)]; exact c2
  · rw [o 14 2 (by omega)]; exact c3
  · rw [o 27 27 (by omega)]; exact c4
  · intro j hj
    rw [o 15 j (by omega), o 43 j (by omega)]
    exact c6 j hj
theorem ztk_wT {k : Nat} (hk : k ≤ 2) : ztk (101 + k) = wT k := by
  have hk' : k = 0 ∨ k = 1 ∨ k = 2 := by omega
  rcases hk' with rfl | rfl | rfl
  · exact ztk_1
  · exact ztk_2
  · exact ztk_3
theorem zcpT1 {h : zH} {T : Nat → Int32} {q n a j : Nat} : (zcpT h T q n).1 a j = if a = q ∧ j < n then T j else h.1 a j := by
  show (if a = q then va_cpy T (h.1 q) 0 0 n else h.1 a) j = _
  by_cases e : a = q
  · subst e
    rw [if_pos rfl]
    by_cases e2 : j < n
    · rw [if_pos ⟨rfl, e2⟩]
      simp [va_cpy, e2]
    · rw [if_neg (fun z => e2 z.2)]
      simp [va_cpy, e2]
  · rw [if_neg e, if_neg (fun z => e z.1)]
theorem st_builtin {h : zH} (hr : zRel h) (v : Int32) : zStep mZ_builtin mM_builtin [.inr (.inr 0), .inl v, .inr (.inr 47)] [.inr (.inr 27), .inl v] h := by
  have e0 : (0 : Int32).toInt = 0 := rfl
  have e2 : (2 : Int32).toInt = 2 := rfl
  by_cases hv : v < 0 ∨ 2 < v
  · exact zStep_x (v := 1) hr (by decide) (spZ_builtin_x1 40 h v (spL_builtin_t 40 h v hv)) (spM_builtin_t 38 h v (fun z => hv.elim z.1 z.2)) (fun r2 h2 q => q)
  · obtain ⟨k, hk, rfl⟩ := zNat (i := v) (n := 3) (fun z => hv (Or.inl z)) (fun z => hv (Or.inr (by rw [Int32.le_iff_toInt_le, show (nI 3).toInt = 3 from rfl] at z; rw [Int32.lt_iff_toInt_lt, e2]; omega))) (by decide)
    have hk2 : k ≤ 2 := by omega
    have hw := ztk_wT hk2
    have hl : (wT k).length ≤ 100 := by rw [← hw]; exact ztk_len (by omega)
    refine zStep_a (spZ_builtin 40 h (nI k) _ (spL_builtin 39 h k hk2) zIe) (fun a h1 q => ?_)
    obtain ⟨f1, f2⟩ := q
    cases f1
    refine ⟨_, spM_builtin 38 _ k hk2, fun r2 h2 q2 => ?_⟩
    obtain ⟨g1, g2, g3, g4, g5⟩ := q2
    cases g1
    rw [Nat.zero_add] at g2
    have o : ∀ a j, a ≠ 1 → a ≠ 2 → a ≠ 28 → ¬ (a = 9 ∧ j = 2) → ¬ (a = 6 ∧ j = 2) → ¬ (a = 27 ∧ (j = 0 ∨ j = 1 ∨ j = 3 ∨ j = 10)) → h2.1 a j = h.1 a j := by
      intro a j k1 k2 k3 k4 k5 k6
      rw [g4 a j (by omega) (by omega), zp1, if_neg (by omega), zp1, if_neg (by omega), zp1, if_neg (by omega), zp1, if_neg (by omega), zq1, f2]
      unfold zBlt
      rw [zp1, if_neg (by omega), zp1, if_neg (by omega), zp1, if_neg (by omega), zcpT1, if_neg (by omega), zp1, if_neg (by omega)]
    have oc : ∀ a j, a ≠ 27 → a ≠ 28 → h2.1 a j = (zBlt h k).1 a j := by
      intro a j k1 k2
      rw [g4 a j (by omega) (by omega), zp1, if_neg (by omega), zp1, if_neg (by omega), zp1, if_neg (by omega), zp1, if_neg (by omega), zq1, f2]
    obtain ⟨n', np, r, len, ck', a1, a2, a3, a4, -⟩ := id hr
    refine ⟨by rw [hw], ?_, ?_, ?_⟩
    · rw [g4 27 0 (by omega) (by omega), zp1, if_neg (by omega), zp1, if_neg (by omega), zp1, if_neg (by omega), zp1, if_pos ⟨rfl, rfl⟩]
    · refine zRel_end hr (wT k).length false (by omega) ?_ g2 ?_ ?_ ?_ ?_ ?_ ?_ (fun z => by cases z) (fun a j ha => o a j (by omega) (by omega) (by omega) (by omega) (by omega) (by omega))
      · rw [oc 1 3 (by decide) (by decide), zBlt_3, hw]
      · funext j
        rw [oc 2 j (by decide) (by decide)]
        unfold zBlt
        rw [zp1, if_neg (by omega), zp1, if_neg (by omega), zp1, if_neg (by omega), zcpT1, hw]
        by_cases hj : j < (wT k).length
        · rw [if_pos ⟨rfl, hj⟩]
          have z := g3 j hj
          rw [Nat.zero_add] at z
          rw [z]
        · rw [if_neg (fun z => hj z.2), zp1, if_neg (by omega), g4 28 j (by omega) (by omega), zp1, if_neg (by omega), zp1, if_neg (by omega), zp1, if_neg (by omega), zp1, if_neg (by omega), zq1, f2]
          unfold zBlt
          rw [zp1, if_neg (by omega), zp1, if_neg (by omega), zp1, if_neg (by omega), zcpT1, if_neg (by omega), zp1, if_neg (by omega), a4]
      · rw [oc 1 4 (by decide) (by decide)]
        unfold zBlt
        simp [zp1]
        rfl
      · rw [g4 27 3 (by omega) (by omega)]
        simp [zp1]
        rfl
      · rw [oc 9 2 (by decide) (by decide)]
        unfold zBlt
        simp [zp1]
      · rw [g4 27 10 (by omega) (by omega)]
        simp [zp1]
      · rw [oc 6 2 (by decide) (by decide)]
        unfold zBlt
        simp [zp1]
    · rw [g5]
      show (zputL h1 47 0 (nI (ztk (101 + k)).length).toInt64).2 47 0 = _
      rw [zL47]
/-- calls of both that always answer -/
def zStep2 (Mc Mr : zM) (h : zH) : Prop := ∃ Kc, zSP 41 0 0 Mc [.inr (.inr 0)] h Kc ∧ ∀ r h1, Kc (.inl r) h1 → ∃ a, r = some (.inl a) ∧ ∃ Kr, zSP 41 0 0 Mr [.inr (.inr 27)] h1 Kr ∧ ∀ r2 h2, Kr (.inl r2) h2 → r2 = some (.inl a) ∧ zRel h2
theorem st_clear {h : zH} (hr : zRel h) : zStep2 mL_clear mM_clear h := by
  obtain ⟨n, np, r, len, ck', a1, a2, a3, a4, -⟩ := id hr
  refine ⟨_, spL_clear 40 h, fun r h1 q => ?_⟩
  obtain ⟨e1, e2⟩ := q
  cases e1
  refine ⟨_, rfl, _, spM_clear 40 h1, fun r2 h2 q2 => ?_⟩
  obtain ⟨f1, f2⟩ := q2
  cases f1
  subst e2
  subst f2
  refine ⟨?_, zRel_clear hr⟩
  simp [zp1, a2, a3]
theorem fErr0 {x : Int32} : decide (x + 1 = 0) = decide (x = -1) := by
  by_cases e : x = -1
  · subst e
    decide
  · rw [decide_eq_false e]
    refine decide_eq_false (fun z => e ?_)
    have : x + 1 - 1 = 0 - 1 := by rw [z]
    grind
theorem st_check {h : zH} (hr : zRel h) : zStep2 mL_check mM_check h := by
  obtain ⟨n, np, r, len, ck', a1, a2, a3, a4, -⟩ := id hr
  refine ⟨_, spL_check 27 h n a2 a1, fun r h1 q => ?_⟩
  obtain ⟨e1, e2, p1, p2, p3, p4⟩ := q
  cases e1
  have ew0 : (zput (zput h 9 2 0) 6 2 0).1 2 = h.1 2 := by funext j; simp [zp1]
  rw [ew0] at p3 p4
  have o1 : ∀ a j, ¬ (a = 1 ∧ 4 ≤ j) → a ≠ 3 → a ≠ 4 → ¬ (a = 9 ∧ j = 2) → ¬ (a = 6 ∧ j = 2) → h1.1 a j = h.1 a j := by
    intro a j k1 k2 k3 k4 k5
    rw [p1 a j k1 k2 k3, zp1, if_neg k5, zp1, if_neg k4]
  have ew1 : h1.1 28 = h.1 2 := by
    rw [a4]
    funext j
    exact o1 28 j (by omega) (by decide) (by decide) (by omega) (by omega)
  refine ⟨_, rfl, _, spM_check 37 h1 n (by rw [o1 27 1 (by omega) (by decide) (by decide) (by omega) (by omega), a3]) a1, fun r2 h2 q2 => ?_⟩
  obtain ⟨h3, ⟨f0, f1, f2, f3⟩, g1, g2⟩ := q2
  cases g1
  have ew2 : (zput (zput (zput h1 27 0 0) 27 3 0) 27 10 0).1 28 = h.1 2 := by
    rw [← ew1]
    funext j
    simp [zp1]
  rw [ew2] at f3
  rw [ew1] at g2 ⊢
  subst g2
  rw [fErr0]
  have o2 : ∀ a j, ¬ (a = 27 ∧ (j = 0 ∨ j = 3 ∨ j = 7 ∨ j = 8 ∨ j = 10)) → a ≠ 29 → a ≠ 30 → a ≠ 31 → a ≠ 38 → (zput h3 27 3 (fBo (decide (fErr (h.1 2) n = -1)))).1 a j = h1.1 a j := by
    intro a j k1 k2 k3 k4 k5
    rw [zp1, if_neg (by omega), f1 a j (by omega) k2 k3 k4 k5, zp1, if_neg (by omega), zp1, if_neg (by omega), zp1, if_neg (by omega)]
  refine ⟨rfl, zRel_end hr n (decide (fErr (h.1 2) n = -1)) a1 ?_ ?_ ?_ ?_ ?_ ?_ ?_ ?_ ?_ ?_⟩
  · rw [o2 1 3 (by omega) (by decide) (by decide) (by decide) (by decide), o1 1 3 (by omega) (by decide) (by decide) (by omega) (by omega), a2]
  · rw [zp1, if_neg (by omega), f1 27 1 (by omega) (by decide) (by decide) (by decide) (by decide), zp1, if_neg (by omega), zp1, if_neg (by omega), zp1, if_neg (by omega), o1 27 1 (by omega) (by decide) (by decide) (by omega) (by omega), a3]
  · funext j
    rw [o2 2 j (by omega) (by decide) (by decide) (by decide) (by decide), o2 28 j (by omega) (by decide) (by decide) (by decide) (by decide), o1 2 j (by omega) (by decide) (by decide) (by omega) (by omega), o1 28 j (by omega) (by decide) (by decide) (by omega) (by omega), a4]
  · rw [o2 1 4 (by omega) (by decide) (by decide) (by decide) (by decide), p3]
  · rw [zp1, if_pos ⟨rfl, rfl⟩]
  · rw [o2 9 2 (by omega) (by decide) (by decide) (by decide) (by decide), p1 9 2 (by omega) (by decide) (by decide)]
    simp [zp1]
  · rw [zp1, if_neg (by omega), f1 27 10 (by omega) (by decide) (by decide) (by decide) (by decide)]
    simp [zp1]
  · rw [o2 6 2 (by omega) (by decide) (by decide) (by decide) (by decide), p1 6 2 (by omega) (by decide) (by decide)]
    simp [zp1]
  · intro z
    have hz := of_decide_eq_true z
    obtain ⟨ph, vars, x1, x2, x3⟩ := p4 hz
    obtain ⟨ph', vars', y1, y2, y3⟩ := f3 hz
    have x3' := x3
    have y3' := y3
    obtain ⟨-, -, x4, x5, x6, x7, -⟩ := x3'
    obtain ⟨-, -, y4, y5, y6, y7, -⟩ := y3'
    have ew3 : (zput h3 27 3 (fBo (decide (fErr (h.1 2) n = -1)))).1 2 = h.1 2 := by
      funext j
      rw [o2 2 j (by omega) (by decide) (by decide) (by decide) (by decide), o1 2 j (by omega) (by decide) (by decide) (by omega) (by omega)]
    have z1 : (zput (zput h 9 2 0) 6 2 0).1 2 0 = h.1 2 0 := by rw [ew0]
    have ep : ph = ph' := nI_inj (by omega) (by omega) (x1.symm.trans y1)
    have ev : vars = vars' := nI_inj (by omega) (by omega) (x2.symm.trans y2)
    subst ep
    subst ev
    refine ⟨ph, vars, by rw [ew3]; exact x1, by rw [ew3]; exact x2, by rw [ew3]; exact hz, zChk_cg (fun a j ha => o2 a j (by omega) (by omega) (by omega) (by omega) (by omega)) x3, zMck_congr (fun a j ha => ?_) y3⟩
    rw [zp1, if_neg (by omega)]
  · intro a j ha
    rw [o2 a j (by omega) (by omega) (by omega) (by omega) (by omega), o1 a j (by omega) (by omega) (by omega) (by omega) (by omega)]
