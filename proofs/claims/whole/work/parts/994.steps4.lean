/-! calls of the law: a run by hand -/
theorem fGood_nI {k : Nat} (hk : k ≤ 99) : fGood (nI k) := by
  have e : (nI k).toInt = k := nI_toInt (by omega)
  unfold fGood
  rw [e]
  omega
/-- a run goes on: what must be said of the heap behind -/
theorem zRel_run {h H : zH} (hr : zRel h) (hc : h.1 1 4 = fBo true) (np r : Nat) (np1 : 1 ≤ np) (np7 : np ≤ 7) (hr6 : r ≤ 60) (e1 : H.1 9 2 = nI np) (e2 : H.1 27 10 = nI np) (e3 : H.1 6 2 = nI r) (e4 : H.1 27 11 = nI r)
    (hg : ∀ i, i < 7 → fGood (H.1 11 i))
    (hv : ∀ vars, h.1 1 6 = nI vars → vars ≤ 5 → ∀ p, p < np → H.1 7 p = H.1 33 p ∧ (∃ k, k < 2 ^ np ∧ H.1 7 p = nI k) ∧ (H.1 36 p = if r = 0 then -1 else H.1 11 p) ∧ ∀ v, v < vars → H.1 12 (5 * p + v) = H.1 34 (5 * p + v) ∧ fGood (H.1 12 (5 * p + v)))
    (o : ∀ a j, (a = 1 ∨ a = 2 ∨ a = 3 ∨ a = 4 ∨ a = 5 ∨ a = 32 ∨ a = 18 ∨ a = 14 ∨ a = 15 ∨ a = 43 ∨ a = 28 ∨ a = 29 ∨ a = 30 ∨ a = 31 ∨ (a = 27 ∧ (j = 1 ∨ j = 3 ∨ j = 7 ∨ j = 8 ∨ j = 21 ∨ j = 26 ∨ j = 27))) → H.1 a j = h.1 a j) : zRel H := by
  obtain ⟨n, np', r', len, ck, a1, a2, a3, a4, a5, a6, a7, a8, a9, b1, b2, b3, b4, b5, b6, b7, c1, c2, c3, c4, c5, c6⟩ := hr
  have ct : ck = true := by
    rw [a5] at hc
    cases ck
    · exact absurd hc (by decide)
    · rfl
  subst ct
  obtain ⟨ph, vars, d1, d2, d3, d4, d5, d6⟩ := b7 rfl
  have ew : H.1 2 = h.1 2 := funext (fun j => o 2 j (by omega))
  refine ⟨n, np, r, len, true, a1, ?_, ?_, ?_, ?_, ?_, ?_, ?_, e1, e2, np7, e3, hr6, fun z => absurd z (by omega), fun _ => ⟨rfl, e4⟩, fun _ => ?_, ?_, ?_, ?_, ?_, c5, ?_⟩
  · rw [o 1 3 (by omega)]; exact a2
  · rw [o 27 1 (by omega)]; exact a3
  · funext j
    rw [o 2 j (by omega), o 28 j (by omega), a4]
  · rw [o 1 4 (by omega)]; exact a5
  · rw [o 27 3 (by omega)]; exact a6
  · intro p hp
    rw [o 5 p (by omega), o 32 p (by omega)]
    exact a7 p hp
  · intro i hi
    rw [o 18 i (by omega)]
    exact ⟨hg i hi, (a8 i hi).2⟩
  · exact ⟨ph, vars, by rw [ew]; exact d1, by rw [ew]; exact d2, by rw [ew]; exact d3, zChk_cg (fun a j ha => o a j (by omega)) d4, zMck_congr (fun a j ha => o a j (by omega)) d5, hv vars d4.2.1 d4.2.2.2.2.2.1⟩
  · rw [o 14 0 (by omega), o 27 21 (by omega)]; exact c1
  · rw [o 14 1 (by omega), o 27 26 (by omega)]; exact c2
  · rw [o 14 2 (by omega)]; exact c3
  · rw [o 27 27 (by omega)]; exact c4
  · intro j hj
    rw [o 15 j (by omega), o 43 j (by omega)]
    exact c6 j hj
theorem st_hear {h : zH} (hr : zRel h) (v s : Int32) : zStep mZ_hear mM_hear [.inr (.inr 0), .inl v, .inl s, .inr (.inr 47)] [.inr (.inr 27), .inl v, .inl s] h := by
  obtain ⟨n, np, r, len, ck, a1, a2, a3, a4, a5, a6, a7, a8, a9, b1, b2, b3, b4, b5, b6, b7, c1, c2, c3, c4, c5, c6⟩ := id hr
  by_cases hv : v < 0 ∨ ¬ v < nI np
  · exact zStep_x (v := 1) hr (by decide) (spZ_hear_x1 40 h v s (spL_hear_t1 38 h v s (by rw [a9]; exact hv))) (spM_hear_t1 40 h v s (zdec_f (by rw [b1]; exact hv))) (fun r2 h2 q => q)
  · obtain ⟨k, hk, rfl⟩ := zNat2 hv (by omega)
    have hct := (b6 (by omega)).1
    obtain ⟨ph, vars, d1, d2, d3, d4, d5, d6⟩ := b7 hct
    by_cases hs : ∃ x, x < 2 ^ np ∧ s = nI x
    · obtain ⟨m1, m2⟩ := (hset_M b2 s).mpr hs
      have eo : ∀ a j, a ≠ 7 → a ≠ 33 → ¬ (a = 27 ∧ j = 0) → (zput (zput (zputL (zput h 7 k s) 47 0 (h.1 7 k).toInt64) 27 0 0) 33 k s).1 a j = h.1 a j := by
        intro a j k1 k2 k3
        rw [zp1, if_neg (by omega), zp1, if_neg k3, zq1, zp1, if_neg (by omega)]
      refine zStep_v (spZ_hear 40 h (nI k) s _ (spL_hear 38 h k np s a9 hk b2 ((hset_C b2 s).mpr hs)) zIe) (spM_hear 40 _ k s (by omega) (zdec_t b1 hk (by omega)) m1 (by rw [zq1, zp1, if_neg (by omega), b1]; exact m2)) ?_ ?_ ?_ rfl
      · show (zput h 7 k s).1 33 k = h.1 7 k
        rw [zp1, if_neg (by omega)]
        exact (d6 k hk).1.symm
      · rw [zp1, if_neg (by omega), zp1, if_pos ⟨rfl, rfl⟩]
      · refine zRel_run hr (by rw [a5, hct]) np r (by omega) b2 b4 ?_ ?_ ?_ ?_ ?_ ?_ (fun a j ha => eo a j (by omega) (by omega) (by omega))
        · rw [eo 9 2 (by decide) (by decide) (by omega)]; exact a9
        · rw [eo 27 10 (by decide) (by decide) (by omega)]; exact b1
        · rw [eo 6 2 (by decide) (by decide) (by omega)]; exact b3
        · rw [eo 27 11 (by decide) (by decide) (by omega)]; exact (b6 (by omega)).2
        · intro i hi
          rw [eo 11 i (by decide) (by decide) (by omega)]
          exact (a8 i hi).1
        · intro vs ev v5 p hp
          have evs : vs = vars := nI_inj (by omega) (by have := d4.2.2.2.2.2.1; omega) (ev.symm.trans d4.2.1)
          subst evs
          obtain ⟨x1, x2, x3, x4⟩ := d6 p hp
          have e7 : (zput (zput (zputL (zput h 7 k s) 47 0 (h.1 7 k).toInt64) 27 0 0) 33 k s).1 7 p = if p = k then s else h.1 7 p := by
            rw [zp1, if_neg (by omega), zp1, if_neg (by omega), zq1, zp1]
            by_cases e : p = k
            · rw [if_pos ⟨rfl, e⟩, if_pos e]
            · rw [if_neg (fun z => e z.2), if_neg e]
          have e33 : (zput (zput (zputL (zput h 7 k s) 47 0 (h.1 7 k).toInt64) 27 0 0) 33 k s).1 33 p = if p = k then s else h.1 33 p := by
            rw [zp1]
            by_cases e : p = k
            · rw [if_pos ⟨rfl, e⟩, if_pos e]
            · rw [if_neg (fun z => e z.2), if_neg e, zp1, if_neg (by omega), zq1, zp1, if_neg (by omega)]
          rw [e7, e33, eo 36 p (by decide) (by decide) (by omega), eo 11 p (by decide) (by decide) (by omega)]
          refine ⟨?_, ?_, x3, fun v hv => ?_⟩
          · by_cases e : p = k
            · rw [if_pos e, if_pos e]
            · rw [if_neg e, if_neg e]; exact x1
          · by_cases e : p = k
            · rw [if_pos e]; exact hs
            · rw [if_neg e]; exact x2
          · rw [eo 12 _ (by decide) (by decide) (by omega), eo 34 _ (by decide) (by decide) (by omega)]
            exact x4 v hv
    · refine zStep_x (v := 2) hr (by decide) (spZ_hear_x2 40 h (nI k) s (spL_hear_t2 38 h k np s a9 hk b2 (fun z => hs ((hset_C b2 s).mp z)))) (spM_hear_t2 40 h (nI k) s (zdec_t b1 hk (by omega)) ?_) (fun r2 h2 q => q)
      rw [b1]
      by_cases s0 : s < 0
      · exact Or.inl s0
      · exact Or.inr (fun z => hs ((hset_M b2 s).mp ⟨s0, z⟩))
def zStepV (h : zH) (v : Int32) : Prop := ∃ (k : Int32) (Kc : zR → zH → Prop), zSW 41 1 6 mZ_start [.inr (.inr 0), .inl v] h Kc ∧ ∀ r h1, Kc (.inl r) h1 → r = some (.inl k) ∧ ∃ Kr, zSP 41 0 0 mM_start [.inr (.inr 27), .inl v] h1 Kr ∧ ∀ r2 h2, Kr (.inl r2) h2 → r2 = none ∧ h2.1 27 0 = k ∧ zRel h2
theorem st_start {h : zH} (hr : zRel h) (v : Int32) : zStepV h v := by
  obtain ⟨n, np, r, len, ck, a1, a2, a3, a4, a5, a6, a7, a8, a9, b1, b2, b3, b4, b5, b6, b7, c1, c2, c3, c4, c5, c6⟩ := id hr
  have refuse : ∀ (k : Int32) (Kr : zR → zH → Prop), zSW 41 1 6 mZ_start [.inr (.inr 0), .inl v] h (zI k h) → zSP 41 0 0 mM_start [.inr (.inr 27), .inl v] h Kr → (∀ r2 h2, Kr (.inl r2) h2 → zU (zput h 27 0 k) (.inl r2) h2) → zStepV h v := by
    intro k Kr s1 s2 s3
    refine ⟨k, _, s1, fun r h1 q => ?_⟩
    obtain ⟨e1, e2⟩ := q
    cases e1
    subst e2
    refine ⟨rfl, Kr, s2, fun r2 h2 q2 => ?_⟩
    obtain ⟨f1, f2⟩ := s3 r2 h2 q2
    cases f1
    subst f2
    exact ⟨rfl, by rw [zp1, if_pos ⟨rfl, rfl⟩], zRel_t hr⟩
  by_cases hv : v < 1 ∨ 7 < v
  · exact refuse 1 _ (spZ_start_x2 40 h v (spL_start_t1 39 h v hv)) (spM_start_t 40 h v false ck (decide_eq_false (fun z => hv.elim z.1 z.2)) a6 rfl) (fun r2 h2 q => q)
  · have h1 : ¬ v < 1 := fun z => hv (Or.inl z)
    have h7 : ¬ 7 < v := fun z => hv (Or.inr z)
    cases ck with
    | false => exact refuse 2 _ (spZ_start_x0 40 h v (spL_start_t2 39 h v h1 h7 a5)) (spM_start_t 40 h v true false (decide_eq_true ⟨h1, h7⟩) a6 rfl) (fun r2 h2 q => q)
    | true =>
      obtain ⟨ph, vars, d1, d2, d3, d4, d5, d6⟩ := b7 rfl
      have v2 := d4.2.2.2.2.1
      have v5 := d4.2.2.2.2.2.1
      obtain ⟨m, hm1, hm7, em⟩ : ∃ m, 1 ≤ m ∧ m ≤ 7 ∧ v = nI m := by
        have e1 : (1 : Int32).toInt = 1 := rfl
        have e7 : (7 : Int32).toInt = 7 := rfl
        rw [Int32.lt_iff_toInt_lt, e1] at h1
        rw [Int32.lt_iff_toInt_lt, e7] at h7
        obtain ⟨m, hm, e⟩ := zNat (i := v) (n := 8) (by rw [Int32.lt_iff_toInt_lt, show (0 : Int32).toInt = 0 from rfl]; omega) (by rw [Int32.le_iff_toInt_le, show (nI 8).toInt = 8 from rfl]; omega) (by decide)
        refine ⟨m, ?_, by omega, e⟩
        rcases Nat.eq_zero_or_pos m with z | z
        · subst z
          rw [e, show (nI 0).toInt = 0 from rfl] at h1
          omega
        · exact z
      subst em
      have p128 := pow7 hm7
      obtain ⟨w3, -, k3, hk3, ew3⟩ : ∃ w, w = h.1 2 3 ∧ ∃ k, k ≤ 15 ∧ h.1 2 3 = nI k := ⟨_, rfl, (fErr_rng d3 d2 v5 1 (by omega)).2⟩
      refine ⟨0, _, spZ_start 40 h (nI m) _ (spL_start 38 h m hm1 hm7 a5) (fun r h' q => Sum.inl.inj q.1), fun r h1 q => ?_⟩
      obtain ⟨e1, -, q2, q3, q4, q5, q6, q7⟩ := q
      cases e1
      have o1 : ∀ a j, ¬ (a = 6 ∧ j = 2) → a ≠ 7 → ¬ (a = 9 ∧ j = 2) → a ≠ 12 → h1.1 a j = h.1 a j := q6
      refine ⟨rfl, _, spM_start 40 h1 m hm1 hm7 (by rw [o1 27 3 (by omega) (by decide) (by omega) (by decide), a6]), fun r2 h2 qm => ?_⟩
      obtain ⟨f1, g1, g2, g3, g4, g5, g6, g7, g8⟩ := qm
      cases f1
      have o2 : ∀ a j, ¬ (a = 27 ∧ (j = 0 ∨ j = 10 ∨ j = 11)) → a ≠ 33 → a ≠ 34 → a ≠ 36 → a ≠ 44 → a ≠ 45 → a ≠ 46 → h2.1 a j = h1.1 a j := g7
      refine ⟨rfl, g1, zRel_run hr a5 m 0 hm1 hm7 (by omega) ?_ g2 ?_ g3 ?_ ?_ ?_⟩
      · rw [o2 9 2 (by omega) (by decide) (by decide) (by decide) (by decide) (by decide) (by decide)]; exact q2
      · rw [o2 6 2 (by omega) (by decide) (by decide) (by decide) (by decide) (by decide) (by decide)]; exact q3
      · intro i hi
        rw [o2 11 i (by omega) (by decide) (by decide) (by decide) (by decide) (by decide) (by decide), o1 11 i (by omega) (by decide) (by omega) (by decide)]
        exact (a8 i hi).1
      · intro vs ev vs5 p hp
        have evs : vs = vars := nI_inj (by omega) (by omega) (ev.symm.trans d4.2.1)
        subst evs
        obtain ⟨i1, kk, hkk, ikk⟩ := a7 p (by omega)
        have e7 : h2.1 7 p = nI (2 ^ m - 1) := by
          rw [o2 7 p (by omega) (by decide) (by decide) (by decide) (by decide) (by decide) (by decide)]
          exact q4 p (by omega)
        refine ⟨by rw [e7, g4 p (by omega)], ⟨2 ^ m - 1, by omega, e7⟩, by rw [g6 p hp, if_pos rfl], fun v hv => ?_⟩
        have e12 : h2.1 12 (5 * p + v) = if v = 1 then (if h.1 2 3 < h.1 5 p then h.1 2 3 else h.1 5 p) else 0 := by
          rw [o2 12 _ (by omega) (by decide) (by decide) (by decide) (by decide) (by decide) (by decide)]
          exact q5 p v hp (by omega)
        have e34 : h2.1 34 (5 * p + v) = if v = 1 then (if h.1 2 3 < h.1 5 p then h.1 2 3 else h.1 5 p) else 0 := by
          rw [g5 p v hp (by omega), o1 28 3 (by omega) (by decide) (by omega) (by decide), o1 32 p (by omega) (by decide) (by omega) (by decide), ← i1, ← a4]
        rw [e12, e34]
        refine ⟨rfl, ?_⟩
        by_cases z : v = 1
        · rw [if_pos z]
          by_cases y : h.1 2 3 < h.1 5 p
          · rw [if_pos y, ew3]
            exact fGood_nI (by omega)
          · rw [if_neg y, ikk]
            exact fGood_nI (by omega)
        · rw [if_neg z]
          exact fGood_nI (k := 0) (by omega)
      · intro a j ha
        rw [o2 a j (by omega) (by omega) (by omega) (by omega) (by omega) (by omega) (by omega), o1 a j (by omega) (by omega) (by omega) (by omega)]
theorem st_round {h : zH} (hr : zRel h) : zStep mZ_round mM_round [.inr (.inr 0), .inr (.inr 47)] [.inr (.inr 27)] h := by
  obtain ⟨n, np, r, len, ck, a1, a2, a3, a4, a5, a6, a7, a8, a9, b1, b2, b3, b4, b5, b6, b7, c1, c2, c3, c4, c5, c6⟩ := id hr
  by_cases hv : np = 0 ∨ r = 60
  · refine zStep_x (v := 1) hr (by decide) (spZ_round_x0 40 h (spL_round_t 39 h ?_)) (spM_round_t 40 h ?_) (fun r2 h2 q => q)
    · rw [a9, b3]
      rcases hv with z | z
      · left
        rw [z]
        rfl
      · right
        rw [z]
        rfl
    · by_cases z : np = 0
      · left
        rw [b1, z]
        decide
      · right
        rw [(b6 (by omega)).2, hv.resolve_left z]
        decide
  · have np1 : 1 ≤ np := by omega
    have r6 : r < 60 := by omega
    obtain ⟨hct, e11⟩ := b6 np1
    obtain ⟨ph, vars, d1, d2, d3, d4, d5, d6⟩ := b7 hct
    obtain ⟨k5, k6, p1, p4, v2, v5, -⟩ := id d4
    have hqH := zChk_qH d4
    have p128 := pow7 b2
    refine zStep_a (spZ_round 40 h _ (spL_round 35 h n ph vars np r d4 a1 a9 np1 b2 b3 r6 (fun p v hp hv => ((d6 p hp).2.2.2 v hv).2) (fun i hi => (a8 i hi).1) (fun p hp => (d6 p hp).2.1)) (fun r0 h' q => ⟨_, Sum.inl.inj q.1⟩)) (fun a h1 q => ?_)
    obtain ⟨e1, g2, g3, g4, g5, g6, g7, g8, g9⟩ := q
    cases e1
    have o1 : ∀ a j, a < 6 ∨ 13 < a → (zputL h1 47 0 (nI (r + 1)).toInt64).1 a j = h.1 a j := g8
    refine ⟨_, spM_round 36 (zputL h1 47 0 (nI (r + 1)).toInt64) n ph vars np r (zMck_congr (fun a j ha => o1 a j (by omega)) d5) a1 np1 b2 r6 (by rw [o1 27 10 (by omega)]; exact b1) (by rw [o1 27 11 (by omega)]; exact e11) (fun p v hp hv => ?_) (fun p hp => ?_), fun r2 h2 q2 => ?_⟩
    · rw [o1 34 _ (by omega), ← ((d6 p hp).2.2.2 v hv).1]
      exact ((d6 p hp).2.2.2 v hv).2
    · rw [o1 33 p (by omega), ← (d6 p hp).1]
      exact (d6 p hp).2.1
    · obtain ⟨f1, h3, ⟨m1, m2, m3, m4⟩, f2⟩ := q2
      cases f1
      subst f2
      have ow : ∀ a j, a < 6 ∨ 13 < a → ¬ (a = 27 ∧ j = 0) → (zput (zputL h1 47 0 (nI (r + 1)).toInt64) 27 0 0).1 a j = h.1 a j := fun a j k1 k2 => by rw [zp1, if_neg k2, o1 a j k1]
      have eW : (zput (zputL h1 47 0 (nI (r + 1)).toInt64) 27 0 0).1 28 = h.1 2 := by
        rw [a4]
        funext j
        exact ow 28 j (by omega) (by omega)
      have e33 : ∀ p, p < np → (zput (zputL h1 47 0 (nI (r + 1)).toInt64) 27 0 0).1 33 p = h.1 7 p := fun p hp => by rw [ow 33 p (by omega) (by omega), (d6 p hp).1]
      have eV : ∀ p v, p < np → v < vars → (zput (zputL h1 47 0 (nI (r + 1)).toInt64) 27 0 0).1 34 (5 * p + v) = h.1 12 (5 * p + v) := fun p v hp hv => by rw [ow 34 _ (by omega) (by omega), ((d6 p hp).2.2.2 v hv).1]
      rw [eW] at m1 m2
      have eM : ∀ p, p < np → pMsg (h.1 2) n vars ph np r ((zput (zputL h1 47 0 (nI (r + 1)).toInt64) 27 0 0).1 34) p = pMsg (h.1 2) n vars ph np r (h.1 12) p := fun p hp => pMsg_congr hqH p1 v2 v5 (fun v hv => eV p v hp hv)
      have H12 : ∀ a j, ¬ (a = 27 ∧ (j = 0 ∨ j = 11 ∨ j = 16 ∨ j = 17 ∨ j = 18)) → a ≠ 33 → a ≠ 34 → a ≠ 35 → a ≠ 36 → a ≠ 37 → (zfill (zput h3 27 11 (nI (r + 1))) 33 7 (nI (2 ^ np - 1))).1 a j = h1.1 a j := by
        intro a j k1 k2 k3 k4 k5 k6
        rw [zf1, if_neg (fun z => k2 z.1), zp1, if_neg (by omega), m3 a j (by omega) k3 k4 (by omega) k6, zp1, if_neg (by omega), zq1]
      have hmsg : ∀ p, p < np → h1.1 11 p = pMsg (h.1 2) n vars ph np r (h.1 12) p := g5
      refine ⟨rfl, ?_, ?_, ?_⟩
      · rw [zf1, if_neg (by omega), zp1, if_neg (by omega), m3 27 0 (by omega) (by decide) (by decide) (by omega) (by decide), zp1, if_pos ⟨rfl, rfl⟩]
      · refine zRel_run hr (by rw [a5, hct]) np (r + 1) np1 b2 (by omega) ?_ ?_ ?_ ?_ ?_ ?_ ?_
        · rw [H12 9 2 (by omega) (by decide) (by decide) (by decide) (by decide) (by decide)]; exact g2
        · rw [zf1, if_neg (by omega), zp1, if_neg (by omega), m3 27 10 (by omega) (by decide) (by decide) (by omega) (by decide), ow 27 10 (by omega) (by omega)]; exact b1
        · rw [H12 6 2 (by omega) (by decide) (by decide) (by decide) (by decide) (by decide)]; exact g3
        · rw [zf1, if_neg (by omega), zp1, if_pos ⟨rfl, rfl⟩]
        · intro i hi
          rw [H12 11 i (by omega) (by decide) (by decide) (by decide) (by decide) (by decide)]
          exact g6 i hi
        · intro vs ev vs5 p hp
          have evs : vs = vars := nI_inj (by omega) (by omega) (ev.symm.trans k6)
          subst evs
          have e7 : (zfill (zput h3 27 11 (nI (r + 1))) 33 7 (nI (2 ^ np - 1))).1 7 p = nI (2 ^ np - 1) := by
            rw [H12 7 p (by omega) (by decide) (by decide) (by decide) (by decide) (by decide)]
            exact g4 p (by omega)
          refine ⟨by rw [e7, zf1, if_pos ⟨rfl, by omega⟩], ⟨2 ^ np - 1, by omega, e7⟩, ?_, fun v hv => ?_⟩
          · rw [if_neg (by omega), H12 11 p (by omega) (by decide) (by decide) (by decide) (by decide) (by decide), zf1, if_neg (by omega), zp1, if_neg (by omega), m1 p hp, eM p hp, hmsg p hp]
          · have x12 : (zfill (zput h3 27 11 (nI (r + 1))) 33 7 (nI (2 ^ np - 1))).1 12 (5 * p + v) = pNxt (h.1 2) n vs ph np r (h.1 12) (pMsg (h.1 2) n vs ph np r (h.1 12)) (h.1 7 p) p v := by
              rw [H12 12 _ (by omega) (by decide) (by decide) (by decide) (by decide) (by decide)]
              exact g7 p v hp hv
            have x34 : (zfill (zput h3 27 11 (nI (r + 1))) 33 7 (nI (2 ^ np - 1))).1 34 (5 * p + v) = pNxt (h.1 2) n vs ph np r (h.1 12) (pMsg (h.1 2) n vs ph np r (h.1 12)) (h.1 7 p) p v := by
              rw [zf1, if_neg (by omega), zp1, if_neg (by omega), m2 p v hp hv, e33 p hp]
              exact pNxt_congr hqH p1 v5 hv (fun v hv => eV p v hp hv) (fun i hi => eM i hi)
            rw [x12, x34]
            refine ⟨rfl, ?_⟩
            obtain ⟨R, hR, eR⟩ := (fErr_rng d3 d2 v5 v hv).2
            obtain ⟨kk, hkk, ekk⟩ := pNxt_rng (ph := ph) (r := r) (s := h.1 7 p) hqH p1 v5 hp b2 hv (fun v hv => ((d6 p hp).2.2.2 v hv).2) (m := pMsg (h.1 2) n vs ph np r (h.1 12)) (fun i hi => pMsg_good hqH p1 v2 v5 hi b2 (fun v hv => ((d6 i hi).2.2.2 v hv).2)) hR eR
            rw [ekk]
            exact fGood_nI (by omega)
        · intro a j ha
          rw [H12 a j (by omega) (by omega) (by omega) (by omega) (by omega) (by omega)]
          exact g8 a j (by omega)
      · show h3.2 47 0 = _
        rw [m4]
        show (zputL h1 47 0 (nI (r + 1)).toInt64).2 47 0 = _
        rw [zL47]
