/-! calls of the law: the search -/
theorem zNatR {v : Int32} {lo hi : Nat} (h1 : ¬ v < nI lo) (h2 : ¬ nI hi < v) (hh : hi < 2 ^ 30) (hl : lo ≤ hi) : ∃ m, lo ≤ m ∧ m ≤ hi ∧ v = nI m := by
  have el : (nI lo).toInt = lo := nI_toInt (by omega)
  have eh : (nI hi).toInt = hi := nI_toInt (by omega)
  rw [Int32.lt_iff_toInt_lt, el] at h1
  rw [Int32.lt_iff_toInt_lt, eh] at h2
  obtain ⟨m, hm, e⟩ := zNat (i := v) (n := hi + 1) (by rw [Int32.lt_iff_toInt_lt, show (0 : Int32).toInt = 0 from rfl]; omega) (by rw [Int32.le_iff_toInt_le, nI_toInt (n := hi + 1) (by omega)]; omega) (by omega)
  rw [e, nI_toInt (n := m) (by omega)] at h1
  exact ⟨m, by omega, by omega, e⟩
/-- the told run is the same -/
theorem zPath_eq {np i c R : Nat} {pa : Nat → Int32} {co : Nat → Nat} {f g : Nat → Int32} (n1 : 1 ≤ np) (hf : zPath np pa co i c R f) (hg : zPath np pa co i c R g) : ∀ j, j < np * (R + 1) → f j = g j := by
  intro j hj
  have e : np * (j / np) + j % np = j := Nat.div_add_mod j np
  have hm : j % np < np := Nat.mod_lt _ (by omega)
  have hd : j / np < R + 1 := Nat.div_lt_of_lt_mul hj
  rcases Nat.eq_zero_or_pos (j / np) with z | z
  · rw [z, Nat.mul_zero, Nat.zero_add] at e
    rw [← e, hf.2 _ hm, hg.2 _ hm]
  · rw [← e, hf.1 (j / np) (j % np) z (by omega) hm, hg.1 (j / np) (j % np) z (by omega) hm]
theorem st_explore {h : zH} (hr : zRel h) (a b c k : Int32) : zStep mZ_explore mM_explore [.inr (.inr 0), .inl a, .inl b, .inl c, .inl k, .inr (.inr 47)] [.inr (.inr 27), .inl a, .inl b, .inl c, .inl k] h := by
  obtain ⟨n, np, r, len, ck, a1, a2, a3, a4, a5, a6, a7, a8, a9, b1, b2, b3, b4, b5, b6, b7, c1, c2, c3, c4, c5, c6⟩ := id hr
  by_cases hbad : (a < 1 ∨ 3 < a) ∨ (b < 0 ∨ 5 < b) ∨ (c < 1 ∨ 3 < c) ∨ (k < 0 ∨ 3 < k)
  · have ea : (decide (¬ a < 1 ∧ ¬ 3 < a) && decide (¬ b < 0 ∧ ¬ 5 < b) && decide (¬ c < 1 ∧ ¬ 3 < c) && decide (¬ k < 0 ∧ ¬ 3 < k)) = false := by
      cases hx : (decide (¬ a < 1 ∧ ¬ 3 < a) && decide (¬ b < 0 ∧ ¬ 5 < b) && decide (¬ c < 1 ∧ ¬ 3 < c) && decide (¬ k < 0 ∧ ¬ 3 < k)) with
      | false => rfl
      | true =>
        simp only [Bool.and_eq_true, decide_eq_true_eq] at hx
        obtain ⟨⟨⟨x1, x2⟩, x3⟩, x4⟩ := hx
        rcases hbad with z | z | z | z
        · exact absurd z (fun z => z.elim x1.1 x1.2)
        · exact absurd z (fun z => z.elim x2.1 x2.2)
        · exact absurd z (fun z => z.elim x3.1 x3.2)
        · exact absurd z (fun z => z.elim x4.1 x4.2)
    exact zStep_x (v := 1) hr (by decide) (spZ_explore_x2 40 h a b c k (spL_explore_t1 39 h a b c k hbad)) (spM_explore_t 40 h a b c k false ck ea a6 rfl) (fun r2 h2 q => q)
  · have ba : ¬ (a < 1 ∨ 3 < a) := fun z => hbad (Or.inl z)
    have bb : ¬ (b < 0 ∨ 5 < b) := fun z => hbad (Or.inr (Or.inl z))
    have bc : ¬ (c < 1 ∨ 3 < c) := fun z => hbad (Or.inr (Or.inr (Or.inl z)))
    have bk : ¬ (k < 0 ∨ 3 < k) := fun z => hbad (Or.inr (Or.inr (Or.inr z)))
    have sp : ∀ {x y : Prop}, ¬ (x ∨ y) → ¬ x ∧ ¬ y := fun z => ⟨fun y => z (Or.inl y), fun y => z (Or.inr y)⟩
    have ea : (decide (¬ a < 1 ∧ ¬ 3 < a) && decide (¬ b < 0 ∧ ¬ 5 < b) && decide (¬ c < 1 ∧ ¬ 3 < c) && decide (¬ k < 0 ∧ ¬ 3 < k)) = true := by
      simp only [Bool.and_eq_true, decide_eq_true_eq]
      exact ⟨⟨⟨sp ba, sp bb⟩, sp bc⟩, sp bk⟩
    cases ck with
    | false => exact zStep_x (v := 2) hr (by decide) (spZ_explore_x0 40 h a b c k (spL_explore_t2 39 h a b c k ba bb bc bk a5)) (spM_explore_t 40 h a b c k true false ea a6 rfl) (fun r2 h2 q => q)
    | true =>
      obtain ⟨ph, vars, d1, d2, d3, d4, d5, d6⟩ := b7 rfl
      obtain ⟨k5, k6, p1, p4, v2, v5, -⟩ := id d4
      obtain ⟨m, m1, m3, rfl⟩ := zNatR (v := a) (lo := 1) (hi := 3) (sp ba).1 (sp ba).2 (by decide) (by decide)
      obtain ⟨R, -, R5, rfl⟩ := zNatR (v := b) (lo := 0) (hi := 5) (sp bb).1 (sp bb).2 (by decide) (by decide)
      obtain ⟨dd, dd1, dd3, rfl⟩ := zNatR (v := c) (lo := 1) (hi := 3) (sp bc).1 (sp bc).2 (by decide) (by decide)
      obtain ⟨kd, -, kd3, rfl⟩ := zNatR (v := k) (lo := 0) (hi := 3) (sp bk).1 (sp bk).2 (by decide) (by decide)
      have hP : xPok (h.1 2, n, vars, ph, m, kd) := ⟨zChk_qH d4, p1, p4, v2, v5, m1, m3, a1, kd3, fun v hv => (fErr_rng d3 d2 v5 v hv).2⟩
      refine zStep_a (spZ_explore 40 h (nI m) (nI R) (nI dd) (nI kd) _ (spL_explore 34 h (h.1 2, n, vars, ph, m, kd) hP R dd R5 dd1 dd3 a5 d4 (fun j => rfl) (fun i hi => (a8 i hi).2)) (fun r0 h' q => by
        obtain ⟨h9, -, e, -⟩ := q
        exact ⟨_, Sum.inl.inj e⟩)) (fun x h1 q => ?_)
      obtain ⟨h0, ⟨e1, e2, e3, e4, e5, e6, e7, e8, e9, eo, el⟩, ex, w1, w2, w3, w4⟩ := q
      cases ex
      obtain ⟨sx, es⟩ : ∃ sx, sx = (xRs (h.1 2, n, vars, ph, m, kd) (xFs (h.1 2, n, vars, ph, m, kd) dd 64) R).1 := ⟨_, rfl⟩
      rw [← es] at w1 w2 ⊢
      have o1 : ∀ a j, ¬ (a = 14 ∧ (j = 0 ∨ j = 1 ∨ j = 2 ∨ j = 12 ∨ j = 13 ∨ j = 14 ∨ j = 15)) → a ≠ 15 → a ≠ 16 → a ≠ 17 → a ≠ 18 → a ≠ 19 → a ≠ 20 → a ≠ 22 → a ≠ 23 → a ≠ 24 → a ≠ 25 → (zputL h1 47 0 (xAns sx.e).toInt64).1 a j = h.1 a j := by
        intro a j k1 k2 k3 k4 k5 k6 k7 k8 k9 k10 k11
        rw [zq1, w4.1 a j (by omega) k2 (by omega) k4 k5 k6 k7 k8 k9 k10, eo a j k1 (by omega) k11]
      have mm := spM_explore 35 (zputL h1 47 0 (xAns sx.e).toInt64) (h.1 2, n, vars, ph, m, kd) R dd hP (zMck_congr (fun a j ha => o1 a j (by omega) (by omega) (by omega) (by omega) (by omega) (by omega) (by omega) (by omega) (by omega) (by omega) (by omega)) d5)
        (fun j => by rw [o1 28 j (by omega) (by decide) (by decide) (by decide) (by decide) (by decide) (by decide) (by decide) (by decide) (by decide) (by decide), ← a4]) R5 dd1 dd3 (by rw [o1 27 3 (by omega) (by decide) (by decide) (by decide) (by decide) (by decide) (by decide) (by decide) (by decide) (by decide) (by decide)]; exact a6)
      rw [← es] at mm
      refine ⟨_, mm, fun r2 h2 q2 => ?_⟩
      obtain ⟨f1, x1, x2, x3, x4, x5⟩ := q2
      cases f1
      have o2 : ∀ a j, ¬ (a = 27 ∧ (j = 0 ∨ j = 16 ∨ j = 17 ∨ j = 18 ∨ j = 21 ∨ j = 26 ∨ j = 27)) → ¬ (a = 33 ∧ 7 ≤ j) → ¬ (a = 34 ∧ 35 ≤ j) → a ≠ 35 → ¬ (a = 36 ∧ 7 ≤ j) → a ≠ 37 → a ≠ 40 → a ≠ 41 → a ≠ 42 → a ≠ 43 → a ≠ 44 → a ≠ 45 → a ≠ 46 → h2.1 a j = h1.1 a j := x4
      have oc : ∀ a j, a = 14 ∨ a = 15 ∨ a = 18 → h2.1 a j = h1.1 a j := fun a j ha => o2 a j (by omega) (by omega) (by omega) (by omega) (by omega) (by omega) (by omega) (by omega) (by omega) (by omega) (by omega) (by omega) (by omega)
      have O : ∀ a j, ((a < 14 ∨ a = 28 ∨ a = 29 ∨ a = 30 ∨ a = 31 ∨ a = 32 ∨ (a = 33 ∧ j < 7) ∨ (a = 34 ∧ j < 35) ∨ (a = 36 ∧ j < 7)) ∨ (a = 27 ∧ (j = 1 ∨ j = 3 ∨ j = 7 ∨ j = 8 ∨ j = 10 ∨ j = 11))) → h2.1 a j = h.1 a j := by
        intro a j ha
        rw [o2 a j (by omega) (by omega) (by omega) (by omega) (by omega) (by omega) (by omega) (by omega) (by omega) (by omega) (by omega) (by omega) (by omega)]
        exact o1 a j (by omega) (by omega) (by omega) (by omega) (by omega) (by omega) (by omega) (by omega) (by omega) (by omega) (by omega)
      have hS : ∃ len', h2.1 14 1 = h2.1 27 26 ∧ h2.1 14 2 = nI len' ∧ h2.1 27 27 = nI len' ∧ len' ≤ 18 ∧ ∀ j, j < len' → h2.1 15 j = h2.1 43 j := by
        rw [oc 14 1 (by omega), oc 14 2 (by omega)]
        have no : (sx.e = none ∨ sx.e = some none) → ∃ len', h1.1 14 1 = h2.1 27 26 ∧ h1.1 14 2 = nI len' ∧ h2.1 27 27 = nI len' ∧ len' ≤ 18 ∧ ∀ j, j < len' → h2.1 15 j = h2.1 43 j := by
          intro z
          have q1 : h1.1 14 1 = h0.1 14 1 ∧ h1.1 14 2 = h0.1 14 2 := by
            rcases z with z | z
            · simp only [zEndC, z] at w2
              exact ⟨w2.1, w2.2.1⟩
            · simp only [zEndC, z] at w2
              exact ⟨w2.1, w2.2.1⟩
          have q2 : h2.1 27 26 = -1 ∧ h2.1 27 27 = 0 := by
            rcases z with z | z
            · simp only [zEnd, z] at x2
              exact ⟨x2.1, x2.2.1⟩
            · simp only [zEnd, z] at x2
              exact ⟨x2.1, x2.2.1⟩
          exact ⟨0, by rw [q1.1, e4, q2.1], by rw [q1.2, e5]; rfl, by rw [q2.2]; rfl, by decide, fun j hj => absurd hj (Nat.not_lt_zero j)⟩
        cases he : sx.e with
        | none => exact no (Or.inl he)
        | some y =>
          cases y with
          | none => exact no (Or.inr he)
          | some y =>
            obtain ⟨y0, i, c, R'⟩ := y
            simp only [zEndC, he] at w2
            simp only [zEnd, he] at x2
            obtain ⟨u1, u2, u3, u4⟩ := w2
            obtain ⟨t1, t2, -, t4⟩ := x2
            have hl : m * (R' + 1) ≤ 3 * 6 := Nat.mul_le_mul m3 (by omega)
            exact ⟨m * (R' + 1), by rw [u1, t1], u2, t2, hl, fun j hj => by
              rw [oc 15 j (by omega)]
              exact zPath_eq m1 u4 t4 j hj⟩
      obtain ⟨len', l1, l2, l3, l4, l5⟩ := hS
      refine ⟨rfl, x3, ⟨n, np, r, len', true, a1, ?_, ?_, ?_, ?_, ?_, ?_, ?_, ?_, ?_, b2, ?_, b4, b5, ?_, fun _ => ⟨ph, vars, ?_, ?_, ?_, zChk_cg (fun a j ha => O a j (by omega)) d4, zMck_congr (fun a j ha => O a j (by omega)) d5, fun p hp => ?_⟩, ?_, l1, l2, l3, l4, l5⟩, ?_⟩
      · rw [O 1 3 (by omega)]; exact a2
      · rw [O 27 1 (by omega)]; exact a3
      · funext j
        rw [O 2 j (by omega), O 28 j (by omega), a4]
      · rw [O 1 4 (by omega)]; exact a5
      · rw [O 27 3 (by omega)]; exact a6
      · intro p hp
        rw [O 5 p (by omega), O 32 p (by omega)]
        exact a7 p hp
      · intro i hi
        rw [O 11 i (by omega), oc 18 i (by omega)]
        exact ⟨(a8 i hi).1, w3.2.2.2.2.1 i hi⟩
      · rw [O 9 2 (by omega)]; exact a9
      · rw [O 27 10 (by omega)]; exact b1
      · rw [O 6 2 (by omega)]; exact b3
      · rw [O 27 11 (by omega)]; exact b6
      · rw [O 2 0 (by omega)]; exact d1
      · rw [O 2 1 (by omega)]; exact d2
      · rw [show h2.1 2 = h.1 2 from funext (fun j => O 2 j (by omega))]; exact d3
      · rw [O 7 p (by omega), O 33 p (by omega), O 36 p (by omega), O 11 p (by omega)]
        obtain ⟨y1, y2, y3, y4⟩ := d6 p hp
        refine ⟨y1, y2, y3, fun v hv => ?_⟩
        rw [O 12 _ (by omega), O 34 _ (by omega)]
        exact y4 v hv
      · rw [oc 14 0 (by omega), w1.1, x1.1]
      · rw [x5 47 0 (by decide), zL47]
