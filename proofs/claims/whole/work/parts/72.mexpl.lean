/-! the reference explores -/
theorem spM_explore_t (d : Nat) (h : zH) (x y z w : Int32) (a b : Bool) (ea : (decide (¬ x < 1 ∧ ¬ 3 < x) && decide (¬ y < 0 ∧ ¬ 5 < y) && decide (¬ z < 1 ∧ ¬ 3 < z) && decide (¬ w < 0 ∧ ¬ 3 < w)) = a) (eb : h.1 27 3 = fBo b) (hab : (a && b) = false) : zSP (d + 1) 0 0 mM_explore [.inr (.inr 27), .inl x, .inl y, .inl z, .inl w] h (zRef h (if a = false then 1 else 2)) := by
  have mid : ∀ c : Bool, c = a → zMC false (d + 1) 0 0 0 0 mM_explore (zRef h (if a = false then 1 else 2)) 43 [some (.inr (.inr 27)), some (.inl x), some (.inl y), some (.inl z), some (.inl w), none] [.inl (fBo c), .inr (.inr 27)] h := by
    intro c hc
    subst hc
    refine r_aload_n (zdk oM_explore 24 rfl) rfl rfl ?_
    refine r_geti (kf := 3) (zdk oM_explore 25 rfl) rfl rfl (by decide) lF_M_75 rfl ?_
    rw [eb]
    refine r_callV2i (M' := mM_goes) (zdk oM_explore 26 rfl) lM_M_85 vM_goes rfl rfl (Nat.le_of_ble_eq_true rfl) rfl (spM_goes d h c b) ?_
    rw [hab]
    refine r_if_ne (tgt := 55) (zdk oM_explore 27 rfl) (by decide) (fun q9 => absurd ((rfl)) q9) (fun _ => ?_)
    refine r_iconst (v := 0) (zdk oM_explore 28 rfl) (by decide) ?_
    refine r_iret (zdk oM_explore 29 rfl) rfl ?_
    refine zIh rfl ?_
    cases c with
    | false => rfl
    | true =>
      cases b with
      | false => rfl
      | true => exact absurd hab (by decide)
  have bad : a = false → zMC false (d + 1) 0 0 0 0 mM_explore (zRef h (if a = false then 1 else 2)) 42 [some (.inr (.inr 27)), some (.inl x), some (.inl y), some (.inl z), some (.inl w), none] [.inr (.inr 27)] h := by
    intro e
    refine r_iconst (v := 0) (zdk oM_explore 23 rfl) (by decide) ?_
    exact mid false e.symm
  refine zmet (by decide +kernel) (Nat.le_of_ble_eq_true rfl) ?_
  refine r_aload_n (zdk oM_explore 0 rfl) rfl rfl ?_
  refine r_iload_n (zdk oM_explore 1 rfl) rfl rfl ?_
  refine r_iconst (v := 1) (zdk oM_explore 2 rfl) (by decide) ?_
  refine r_iconst (v := 3) (zdk oM_explore 3 rfl) (by decide) ?_
  refine r_callS3i (M' := mM_within) (zdk oM_explore 4 rfl) lM_M_100 sM_within (Nat.le_of_ble_eq_true rfl) rfl (spM_within d h x 1 3) ?_
  cases h1 : decide (¬ x < 1 ∧ ¬ 3 < x) with
  | false =>
    rw [h1] at ea
    refine r_if_eq (tgt := 42) (zdk oM_explore 5 rfl) (by decide) (fun _ => ?_) (fun q9 => absurd ((rfl)) q9)
    exact bad (by rw [← ea]; rfl)
  | true =>
    rw [h1] at ea
    refine r_if_eq (tgt := 42) (zdk oM_explore 5 rfl) (by decide) (fun q9 => absurd q9 ((fBo_t))) (fun _ => ?_)
    refine r_iload_n (zdk oM_explore 6 rfl) rfl rfl ?_
    refine r_iconst (v := 0) (zdk oM_explore 7 rfl) (by decide) ?_
    refine r_iconst (v := 5) (zdk oM_explore 8 rfl) (by decide) ?_
    refine r_callS3i (M' := mM_within) (zdk oM_explore 9 rfl) lM_M_100 sM_within (Nat.le_of_ble_eq_true rfl) rfl (spM_within d h y 0 5) ?_
    cases h2 : decide (¬ y < 0 ∧ ¬ 5 < y) with
    | false =>
      rw [h2] at ea
      refine r_if_eq (tgt := 42) (zdk oM_explore 10 rfl) (by decide) (fun _ => ?_) (fun q9 => absurd ((rfl)) q9)
      exact bad (by rw [← ea]; rfl)
    | true =>
      rw [h2] at ea
      refine r_if_eq (tgt := 42) (zdk oM_explore 10 rfl) (by decide) (fun q9 => absurd q9 ((fBo_t))) (fun _ => ?_)
      refine r_iload_n (zdk oM_explore 11 rfl) rfl rfl ?_
      refine r_iconst (v := 1) (zdk oM_explore 12 rfl) (by decide) ?_
      refine r_iconst (v := 3) (zdk oM_explore 13 rfl) (by decide) ?_
      refine r_callS3i (M' := mM_within) (zdk oM_explore 14 rfl) lM_M_100 sM_within (Nat.le_of_ble_eq_true rfl) rfl (spM_within d h z 1 3) ?_
      cases h3 : decide (¬ z < 1 ∧ ¬ 3 < z) with
      | false =>
        rw [h3] at ea
        refine r_if_eq (tgt := 42) (zdk oM_explore 15 rfl) (by decide) (fun _ => ?_) (fun q9 => absurd ((rfl)) q9)
        exact bad (by rw [← ea]; rfl)
      | true =>
        rw [h3] at ea
        refine r_if_eq (tgt := 42) (zdk oM_explore 15 rfl) (by decide) (fun q9 => absurd q9 ((fBo_t))) (fun _ => ?_)
        refine r_iload (zdk oM_explore 16 rfl) rfl ?_
        refine r_iconst (v := 0) (zdk oM_explore 17 rfl) (by decide) ?_
        refine r_iconst (v := 3) (zdk oM_explore 18 rfl) (by decide) ?_
        refine r_callS3i (M' := mM_within) (zdk oM_explore 19 rfl) lM_M_100 sM_within (Nat.le_of_ble_eq_true rfl) rfl (spM_within d h w 0 3) ?_
        cases h4 : decide (¬ w < 0 ∧ ¬ 3 < w) with
        | false =>
          rw [h4] at ea
          refine r_if_eq (tgt := 42) (zdk oM_explore 20 rfl) (by decide) (fun _ => ?_) (fun q9 => absurd ((rfl)) q9)
          exact bad (by rw [← ea]; rfl)
        | true =>
          rw [h4] at ea
          refine r_if_eq (tgt := 42) (zdk oM_explore 20 rfl) (by decide) (fun q9 => absurd q9 ((fBo_t))) (fun _ => ?_)
          refine r_iconst (v := 1) (zdk oM_explore 21 rfl) (by decide) ?_
          refine r_goto (tgt := 43) (zdk oM_explore 22 rfl) (by decide) ?_
          exact mid true ea
def zMEx (P : xP) (s : xZ) (h h' : zH) : Prop := zMl P s h' ∧ zEnd P s (h.1 43) (h'.1 27 26) (h'.1 27 27) (h'.1 43) ∧ h'.1 27 0 = 0 ∧ (∀ a j, ¬ (a = 27 ∧ (j = 0 ∨ j = 16 ∨ j = 17 ∨ j = 18 ∨ j = 21 ∨ j = 26 ∨ j = 27)) → ¬ (a = 33 ∧ 7 ≤ j) → ¬ (a = 34 ∧ 35 ≤ j) → a ≠ 35 → ¬ (a = 36 ∧ 7 ≤ j) → a ≠ 37 → a ≠ 40 → a ≠ 41 → a ≠ 42 → a ≠ 43 → a ≠ 44 → a ≠ 45 → a ≠ 46 → h'.1 a j = h.1 a j) ∧ (∀ a j, a ≠ 39 → h'.2 a j = h.2 a j)
theorem spM_explore (d : Nat) (h : zH) (P : xP) (R dd : Nat) (hP : xPok P) (hck : zMck h P.n P.ph P.vars) (hW : ∀ j, h.1 28 j = P.W j) (hR : R ≤ 5) (d1 : 1 ≤ dd) (hdd : dd ≤ 3) (hc : h.1 27 3 = fBo true) :
    zSP (d + 6) 0 0 mM_explore [.inr (.inr 27), .inl (nI P.np), .inl (nI R), .inl (nI dd), .inl (nI P.kd)] h (fun r h' => r = .inl (some (.inl (xAns (xRs P (xFs P dd 64) R).1.e))) ∧ zMEx P (xRs P (xFs P dd 64) R).1 h h') := by
  have n1 := hP.n1
  have n3 := hP.n3
  have k3 := hP.k3
  obtain ⟨h1, eh1⟩ : ∃ h1, h1 = zcp (zcp (zcp (zput h 27 0 0) 44 34 35) 45 36 7) 46 33 7 := ⟨_, rfl⟩
  have o1 : ∀ a j, ¬ (a = 27 ∧ j = 0) → a ≠ 44 → a ≠ 45 → a ≠ 46 → h1.1 a j = h.1 a j := by
    intro a j c1 c2 c3 c4
    rw [eh1]
    simp only [zcp1]
    rw [if_neg (fun z => c4 z.1), if_neg (fun z => c3 z.1), if_neg (fun z => c2 z.1), zp1, if_neg c1]
  have o2 : h1.2 = h.2 := by rw [eh1]; rfl
  have o0 : h1.1 27 0 = 0 := by rw [eh1]; simp [zcp1, zp1]
  have o44 : ∀ j, j < 35 → h1.1 44 j = h.1 34 j := fun j hj => by rw [eh1]; simp [zcp1, zp1, hj]
  have o45 : ∀ j, j < 7 → h1.1 45 j = h.1 36 j := fun j hj => by rw [eh1]; simp [zcp1, zp1, hj]
  have o46 : ∀ j, j < 7 → h1.1 46 j = h.1 33 j := fun j hj => by rw [eh1]; simp [zcp1, zp1, hj]
  refine zmet (by decide +kernel) (Nat.le_of_ble_eq_true rfl) ?_
  refine r_aload_n (zdk oM_explore 0 rfl) rfl rfl ?_
  refine r_iload_n (zdk oM_explore 1 rfl) rfl rfl ?_
  refine r_iconst (v := 1) (zdk oM_explore 2 rfl) (by decide) ?_
  refine r_iconst (v := 3) (zdk oM_explore 3 rfl) (by decide) ?_
  refine r_callS3i (M' := mM_within) (zdk oM_explore 4 rfl) lM_M_100 sM_within (Nat.le_of_ble_eq_true rfl) rfl (spM_within (d + 5) h (nI P.np) 1 3) ?_
  rw [zw_t (v := nI P.np) (lo := 1) (hi := 3) ⟨Int32.not_lt.mpr (nI_lel (a := 1) n1 (by omega)), Int32.not_lt.mpr (nI_lel (b := 3) n3 (by decide))⟩]
  refine r_if_eq (tgt := 42) (zdk oM_explore 5 rfl) (by decide) (fun q9 => absurd q9 ((fBo_t))) (fun _ => ?_)
  refine r_iload_n (zdk oM_explore 6 rfl) rfl rfl ?_
  refine r_iconst (v := 0) (zdk oM_explore 7 rfl) (by decide) ?_
  refine r_iconst (v := 5) (zdk oM_explore 8 rfl) (by decide) ?_
  refine r_callS3i (M' := mM_within) (zdk oM_explore 9 rfl) lM_M_100 sM_within (Nat.le_of_ble_eq_true rfl) rfl (spM_within (d + 5) h (nI R) 0 5) ?_
  rw [zw_t (v := nI R) (lo := 0) (hi := 5) ⟨zm1p (by omega), Int32.not_lt.mpr (nI_lel (b := 5) hR (by decide))⟩]
  refine r_if_eq (tgt := 42) (zdk oM_explore 10 rfl) (by decide) (fun q9 => absurd q9 ((fBo_t))) (fun _ => ?_)
  refine r_iload_n (zdk oM_explore 11 rfl) rfl rfl ?_
  refine r_iconst (v := 1) (zdk oM_explore 12 rfl) (by decide) ?_
  refine r_iconst (v := 3) (zdk oM_explore 13 rfl) (by decide) ?_
  refine r_callS3i (M' := mM_within) (zdk oM_explore 14 rfl) lM_M_100 sM_within (Nat.le_of_ble_eq_true rfl) rfl (spM_within (d + 5) h (nI dd) 1 3) ?_
  rw [zw_t (v := nI dd) (lo := 1) (hi := 3) ⟨Int32.not_lt.mpr (nI_lel (a := 1) d1 (by omega)), Int32.not_lt.mpr (nI_lel (b := 3) hdd (by decide))⟩]
  refine r_if_eq (tgt := 42) (zdk oM_explore 15 rfl) (by decide) (fun q9 => absurd q9 ((fBo_t))) (fun _ => ?_)
  refine r_iload (zdk oM_explore 16 rfl) rfl ?_
  refine r_iconst (v := 0) (zdk oM_explore 17 rfl) (by decide) ?_
  refine r_iconst (v := 3) (zdk oM_explore 18 rfl) (by decide) ?_
  refine r_callS3i (M' := mM_within) (zdk oM_explore 19 rfl) lM_M_100 sM_within (Nat.le_of_ble_eq_true rfl) rfl (spM_within (d + 5) h (nI P.kd) 0 3) ?_
  rw [zw_t (v := nI P.kd) (lo := 0) (hi := 3) ⟨zm1p (by omega), Int32.not_lt.mpr (nI_lel (b := 3) k3 (by decide))⟩]
  refine r_if_eq (tgt := 42) (zdk oM_explore 20 rfl) (by decide) (fun q9 => absurd q9 ((fBo_t))) (fun _ => ?_)
  refine r_iconst (v := 1) (zdk oM_explore 21 rfl) (by decide) ?_
  refine r_goto (tgt := 43) (zdk oM_explore 22 rfl) (by decide) ?_
  refine r_aload_n (zdk oM_explore 24 rfl) rfl rfl ?_
  refine r_geti (kf := 3) (zdk oM_explore 25 rfl) rfl rfl (by decide) lF_M_75 rfl ?_
  rw [hc]
  refine r_callV2i (M' := mM_goes) (zdk oM_explore 26 rfl) lM_M_85 vM_goes rfl rfl (Nat.le_of_ble_eq_true rfl) rfl (spM_goes (d + 5) h true true) ?_
  refine r_if_ne (tgt := 55) (zdk oM_explore 27 rfl) (by decide) (fun _ => ?_) (fun q9 => absurd q9 ((fBo_t)))
  refine r_aload_n (zdk oM_explore 30 rfl) rfl rfl ?_
  refine r_callV0v (M' := mM_keep) (zdk oM_explore 31 rfl) lM_M_173 vM_keep rfl rfl (Nat.le_of_ble_eq_true rfl) rfl (spM_keep (d + 5) (zput h 27 0 0)) ?_
  rw [← eh1]
  refine r_aload_n (zdk oM_explore 32 rfl) rfl rfl ?_
  refine r_iload_n (zdk oM_explore 33 rfl) rfl rfl ?_
  refine r_iload_n (zdk oM_explore 34 rfl) rfl rfl ?_
  refine r_iload_n (zdk oM_explore 35 rfl) rfl rfl ?_
  refine r_iload (zdk oM_explore 36 rfl) rfl ?_
  refine r_callV4 (M' := mM_search) (zdk oM_explore 37 rfl) lM_M_217 vM_search rfl rfl (Nat.le_of_ble_eq_true rfl) rfl (spM_search d h1 P R dd hP (zMck_congr (fun a j ha => o1 a j (by omega) (by omega) (by omega) (by omega)) hck) (fun j => by rw [o1 28 j (by omega) (by decide) (by decide) (by decide), hW j]) hR hdd) ?_
  intro r h2 q
  obtain ⟨e, q1, q2, q3, q4⟩ := q
  cases e
  refine r_istore (zdk oM_explore 38 rfl) (Nat.le_of_ble_eq_true rfl) rfl ?_
  refine r_aload_n (zdk oM_explore 39 rfl) rfl rfl ?_
  refine r_callV0v (M' := mM_bringBack) (zdk oM_explore 40 rfl) lM_M_221 vM_bringBack rfl rfl (Nat.le_of_ble_eq_true rfl) rfl (spM_bringBack (d + 5) h2) ?_
  refine r_iload (zdk oM_explore 41 rfl) rfl ?_
  refine r_iret (zdk oM_explore 42 rfl) rfl ?_
  have b0 : ∀ a j, a ≠ 33 → a ≠ 34 → a ≠ 36 → (zcp (zcp (zcp h2 34 44 35) 36 45 7) 33 46 7).1 a j = h2.1 a j := by
    intro a j c1 c2 c3
    simp only [zcp1]
    rw [if_neg (fun z => c1 z.1), if_neg (fun z => c3 z.1), if_neg (fun z => c2 z.1)]
  refine ⟨rfl, q1.congr (fun a j ha => b0 a j (by omega) (by omega) (by omega)) rfl, ?_, ?_, ?_, ?_⟩
  · rw [b0 27 26 (by decide) (by decide) (by decide), b0 27 27 (by decide) (by decide) (by decide), show (zcp (zcp (zcp h2 34 44 35) 36 45 7) 33 46 7).1 43 = h2.1 43 from funext (fun j => b0 43 j (by decide) (by decide) (by decide)), show h.1 43 = h1.1 43 from funext (fun j => (o1 43 j (by omega) (by decide) (by decide) (by decide)).symm)]
    exact q4
  · rw [b0 27 0 (by decide) (by decide) (by decide), q2 27 0 (by omega) (by decide) (by decide) (by decide) (by decide) (by decide) (by decide) (by decide) (by decide) (by decide), o0]
  · intro a j c1 c2 c3 c4 c5 c6 c7 c8 c9 c10 c11 c12 c13
    by_cases a33 : a = 33
    · subst a33
      have hj : j < 7 := by omega
      rw [show (zcp (zcp (zcp h2 34 44 35) 36 45 7) 33 46 7).1 33 j = h2.1 46 j by simp [zcp1, hj]]
      rw [q2 46 j (by omega) (by decide) (by decide) (by decide) (by decide) (by decide) (by decide) (by decide) (by decide) (by decide), o46 j hj]
    · by_cases a34 : a = 34
      · subst a34
        have hj : j < 35 := by omega
        rw [show (zcp (zcp (zcp h2 34 44 35) 36 45 7) 33 46 7).1 34 j = h2.1 44 j by simp [zcp1, hj]]
        rw [q2 44 j (by omega) (by decide) (by decide) (by decide) (by decide) (by decide) (by decide) (by decide) (by decide) (by decide), o44 j hj]
      · by_cases a36 : a = 36
        · subst a36
          have hj : j < 7 := by omega
          rw [show (zcp (zcp (zcp h2 34 44 35) 36 45 7) 33 46 7).1 36 j = h2.1 45 j by simp [zcp1, hj]]
          rw [q2 45 j (by omega) (by decide) (by decide) (by decide) (by decide) (by decide) (by decide) (by decide) (by decide) (by decide), o45 j hj]
        · rw [b0 a j a33 a34 a36, q2 a j (by omega) a33 a34 c4 a36 c6 c7 c8 c9 c10, o1 a j (by omega) c11 c12 c13]
  · intro a j c1
    show h2.2 a j = _
    rw [q3 a j c1, o2]
