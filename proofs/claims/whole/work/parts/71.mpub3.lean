/-! the reference's public methods: deep, start, round, explore -/
theorem spM_deep_t (d : Nat) (h : zH) (x y : Int32) (c : Bool) (hc : h.1 27 3 = fBo c) (hx : c = true → x < 0 ∨ h.1 27 7 ≤ x ∨ y < -1 ∨ h.1 27 8 ≤ y) : zSP (d + 1) 0 0 mM_deep [.inr (.inr 27), .inl x, .inl y] h (zRef h (if c then 1 else 2)) := by
  have mid : zMC false (d + 1) 0 0 0 0 mM_deep (zRef h (if c then 1 else 2)) 36 [some (.inr (.inr 27)), some (.inl x), some (.inl y), none] [] h := by
    refine r_iconst (v := 0) (zdk oM_deep 18 rfl) (by decide) ?_
    refine r_istore_n (zdk oM_deep 19 rfl) rfl (Nat.le_of_ble_eq_true rfl) rfl ?_
    refine r_aload_n (zdk oM_deep 20 rfl) rfl rfl ?_
    refine r_iload_n (zdk oM_deep 21 rfl) rfl rfl ?_
    refine r_if_ne (tgt := 50) (zdk oM_deep 22 rfl) (by decide) (fun q9 => absurd ((rfl)) q9) (fun _ => ?_)
    refine r_aload_n (zdk oM_deep 23 rfl) rfl rfl ?_
    refine r_geti (kf := 3) (zdk oM_deep 24 rfl) rfl rfl (by decide) lF_M_75 rfl ?_
    rw [hc]
    cases c with
    | true =>
      refine r_if_ne (tgt := 54) (zdk oM_deep 25 rfl) (by decide) (fun _ => ?_) (fun q9 => absurd q9 ((fBo_t)))
      refine r_iconst (v := 0) (zdk oM_deep 28 rfl) (by decide) ?_
      refine r_aload_n (zdk oM_deep 29 rfl) rfl rfl ?_
      refine r_geti (kf := 3) (zdk oM_deep 30 rfl) rfl rfl (by decide) lF_M_75 rfl ?_
      rw [hc]
      refine r_callV2i (M' := mM_goes) (zdk oM_deep 31 rfl) lM_M_85 vM_goes rfl rfl (Nat.le_of_ble_eq_true rfl) rfl (spM_goes d h false true) ?_
      refine r_if_ne (tgt := 67) (zdk oM_deep 32 rfl) (by decide) (fun q9 => absurd ((rfl)) q9) (fun _ => ?_)
      refine r_iconst (v := 0) (zdk oM_deep 33 rfl) (by decide) ?_
      refine r_iret (zdk oM_deep 34 rfl) rfl ?_
      exact zIi rfl
    | false =>
      refine r_if_ne (tgt := 54) (zdk oM_deep 25 rfl) (by decide) (fun q9 => absurd ((rfl)) q9) (fun _ => ?_)
      refine r_iconst (v := 1) (zdk oM_deep 26 rfl) (by decide) ?_
      refine r_goto (tgt := 55) (zdk oM_deep 27 rfl) (by decide) ?_
      refine r_aload_n (zdk oM_deep 29 rfl) rfl rfl ?_
      refine r_geti (kf := 3) (zdk oM_deep 30 rfl) rfl rfl (by decide) lF_M_75 rfl ?_
      rw [hc]
      refine r_callV2i (M' := mM_goes) (zdk oM_deep 31 rfl) lM_M_85 vM_goes rfl rfl (Nat.le_of_ble_eq_true rfl) rfl (spM_goes d h true false) ?_
      refine r_if_ne (tgt := 67) (zdk oM_deep 32 rfl) (by decide) (fun q9 => absurd ((rfl)) q9) (fun _ => ?_)
      refine r_iconst (v := 0) (zdk oM_deep 33 rfl) (by decide) ?_
      refine r_iret (zdk oM_deep 34 rfl) rfl ?_
      exact zIi rfl
  refine zmet (by decide +kernel) (Nat.le_of_ble_eq_true rfl) ?_
  refine r_aload_n (zdk oM_deep 0 rfl) rfl rfl ?_
  refine r_geti (kf := 3) (zdk oM_deep 1 rfl) rfl rfl (by decide) lF_M_75 rfl ?_
  rw [hc]
  cases c with
  | false =>
    refine r_if_eq (tgt := 36) (zdk oM_deep 2 rfl) (by decide) (fun _ => ?_) (fun q9 => absurd ((rfl)) q9)
    exact mid
  | true =>
    have hx := hx rfl
    refine r_if_eq (tgt := 36) (zdk oM_deep 2 rfl) (by decide) (fun q9 => absurd q9 ((fBo_t))) (fun _ => ?_)
    refine r_iload_n (zdk oM_deep 3 rfl) rfl rfl ?_
    refine r_if_lt (tgt := 36) (zdk oM_deep 4 rfl) (by decide) (fun h1 => ?_) (fun h1 => ?_)
    · exact mid
    · refine r_iload_n (zdk oM_deep 5 rfl) rfl rfl ?_
      refine r_aload_n (zdk oM_deep 6 rfl) rfl rfl ?_
      refine r_geti (kf := 7) (zdk oM_deep 7 rfl) rfl rfl (by decide) lF_M_120 rfl ?_
      refine r_icmp_ge (tgt := 36) (zdk oM_deep 8 rfl) (by decide) (fun h2 => ?_) (fun h2 => ?_)
      · exact mid
      · refine r_iload_n (zdk oM_deep 9 rfl) rfl rfl ?_
        refine r_iconst (v := -1) (zdk oM_deep 10 rfl) (by decide) ?_
        refine r_icmp_lt (tgt := 36) (zdk oM_deep 11 rfl) (by decide) (fun h3 => ?_) (fun h3 => ?_)
        · exact mid
        · refine r_iload_n (zdk oM_deep 12 rfl) rfl rfl ?_
          refine r_aload_n (zdk oM_deep 13 rfl) rfl rfl ?_
          refine r_geti (kf := 8) (zdk oM_deep 14 rfl) rfl rfl (by decide) lF_M_113 rfl ?_
          refine r_icmp_ge (tgt := 36) (zdk oM_deep 15 rfl) (by decide) (fun _ => ?_) (fun q9 => absurd ((((hx.resolve_left h1).resolve_left h2).resolve_left h3)) q9)
          exact mid
theorem spM_deep (d : Nat) (h : zH) (f q ph vars : Nat) (hc : h.1 27 3 = fBo true) (k7 : h.1 27 7 = nI ph) (k8 : h.1 27 8 = nI vars) (p4 : ph ≤ 4) (v5 : vars ≤ 5) (hf : f < ph) (hq : q ≤ vars) : zSP (d + 1) 0 0 mM_deep [.inr (.inr 27), .inl (nI f), .inl (nI q - 1)] h (zI (h.1 31 (6 * f + q)) (zput h 27 0 0)) := by
  have e1 : ¬ (nI q - 1 : Int32) < -1 := by
    have key : ∀ q : Fin 6, ¬ (nI q.val - 1 : Int32) < -1 := by decide +kernel
    exact key ⟨q, by omega⟩
  have e2 : ¬ nI vars ≤ nI q - 1 := by
    rcases Nat.eq_zero_or_pos q with z | z
    · subst z
      rw [Int32.not_le]
      have key : ∀ v : Fin 6, nI 0 - 1 < nI v.val := by decide +kernel
      exact key ⟨vars, by omega⟩
    · obtain ⟨q', rfl⟩ : ∃ q', q = q' + 1 := ⟨q - 1, by omega⟩
      rw [zm1s]
      exact nI_ge (by omega) (by omega)
  refine zmet (by decide +kernel) (Nat.le_of_ble_eq_true rfl) ?_
  refine r_aload_n (zdk oM_deep 0 rfl) rfl rfl ?_
  refine r_geti (kf := 3) (zdk oM_deep 1 rfl) rfl rfl (by decide) lF_M_75 rfl ?_
  rw [hc]
  refine r_if_eq (tgt := 36) (zdk oM_deep 2 rfl) (by decide) (fun q9 => absurd q9 ((fBo_t))) (fun _ => ?_)
  refine r_iload_n (zdk oM_deep 3 rfl) rfl rfl ?_
  refine r_if_lt (tgt := 36) (zdk oM_deep 4 rfl) (by decide) (fun q9 => absurd q9 ((zm1p (by omega)))) (fun _ => ?_)
  refine r_iload_n (zdk oM_deep 5 rfl) rfl rfl ?_
  refine r_aload_n (zdk oM_deep 6 rfl) rfl rfl ?_
  refine r_geti (kf := 7) (zdk oM_deep 7 rfl) rfl rfl (by decide) lF_M_120 rfl ?_
  rw [k7]
  refine r_icmp_ge (tgt := 36) (zdk oM_deep 8 rfl) (by decide) (fun q9 => absurd q9 ((nI_ge hf (by omega)))) (fun _ => ?_)
  refine r_iload_n (zdk oM_deep 9 rfl) rfl rfl ?_
  refine r_iconst (v := -1) (zdk oM_deep 10 rfl) (by decide) ?_
  refine r_icmp_lt (tgt := 36) (zdk oM_deep 11 rfl) (by decide) (fun q9 => absurd q9 ((e1))) (fun _ => ?_)
  refine r_iload_n (zdk oM_deep 12 rfl) rfl rfl ?_
  refine r_aload_n (zdk oM_deep 13 rfl) rfl rfl ?_
  refine r_geti (kf := 8) (zdk oM_deep 14 rfl) rfl rfl (by decide) lF_M_113 rfl ?_
  rw [k8]
  refine r_icmp_ge (tgt := 36) (zdk oM_deep 15 rfl) (by decide) (fun q9 => absurd q9 ((e2))) (fun _ => ?_)
  refine r_iconst (v := 1) (zdk oM_deep 16 rfl) (by decide) ?_
  refine r_goto (tgt := 37) (zdk oM_deep 17 rfl) (by decide) ?_
  refine r_istore_n (zdk oM_deep 19 rfl) rfl (Nat.le_of_ble_eq_true rfl) rfl ?_
  refine r_aload_n (zdk oM_deep 20 rfl) rfl rfl ?_
  refine r_iload_n (zdk oM_deep 21 rfl) rfl rfl ?_
  refine r_if_ne (tgt := 50) (zdk oM_deep 22 rfl) (by decide) (fun _ => ?_) (fun q9 => absurd q9 ((by decide)))
  refine r_iconst (v := 1) (zdk oM_deep 26 rfl) (by decide) ?_
  refine r_goto (tgt := 55) (zdk oM_deep 27 rfl) (by decide) ?_
  refine r_aload_n (zdk oM_deep 29 rfl) rfl rfl ?_
  refine r_geti (kf := 3) (zdk oM_deep 30 rfl) rfl rfl (by decide) lF_M_75 rfl ?_
  rw [hc]
  refine r_callV2i (M' := mM_goes) (zdk oM_deep 31 rfl) lM_M_85 vM_goes rfl rfl (Nat.le_of_ble_eq_true rfl) rfl (spM_goes d h true true) ?_
  refine r_if_ne (tgt := 67) (zdk oM_deep 32 rfl) (by decide) (fun _ => ?_) (fun q9 => absurd q9 ((fBo_t)))
  refine r_aload_n (zdk oM_deep 35 rfl) rfl rfl ?_
  refine r_getr (kf := 6) (zdk oM_deep 36 rfl) rfl rfl (by decide) lF_M_19 rfl ?_
  refine r_bipush (v := 6) (zdk oM_deep 37 rfl) (by decide) ?_
  refine r_iload_n (zdk oM_deep 38 rfl) rfl rfl ?_
  refine r_imul (zdk oM_deep 39 rfl) ?_
  refine r_tp (pk_mul 6 f) ?_
  refine r_iconst (v := 1) (zdk oM_deep 40 rfl) (by decide) ?_
  refine r_iadd (zdk oM_deep 41 rfl) ?_
  refine r_iload_n (zdk oM_deep 42 rfl) rfl rfl ?_
  refine r_iadd (zdk oM_deep 43 rfl) ?_
  refine r_tp (show nI (6 * f) + 1 + (nI q - 1) = nI (6 * f + q) by rw [← nI_add]; generalize nI (6 * f) = a; generalize nI q = b; grind) ?_
  refine r_iald (zdk oM_deep 44 rfl) rfl (vp_in_nI (n := 6 * f + q) (by omega) (by decide)) ?_
  refine r_iret (zdk oM_deep 45 rfl) rfl ?_
  exact zIh (by rw [nI_clamp (n := 6 * f + q) (by omega)]; rfl) rfl
theorem spM_start_t (d : Nat) (h : zH) (x : Int32) (a b : Bool) (ea : decide (¬ x < 1 ∧ ¬ 7 < x) = a) (eb : h.1 27 3 = fBo b) (hab : (a && b) = false) : zSP (d + 1) 0 0 mM_start [.inr (.inr 27), .inl x] h (zU (zput h 27 0 (if a = false then 1 else 2))) := by
  refine zmet (by decide +kernel) (Nat.le_of_ble_eq_true rfl) ?_
  refine r_aload_n (zdk oM_start 0 rfl) rfl rfl ?_
  refine r_iload_n (zdk oM_start 1 rfl) rfl rfl ?_
  refine r_iconst (v := 1) (zdk oM_start 2 rfl) (by decide) ?_
  refine r_bipush (v := 7) (zdk oM_start 3 rfl) (by decide) ?_
  refine r_callS3i (M' := mM_within) (zdk oM_start 4 rfl) lM_M_100 sM_within (Nat.le_of_ble_eq_true rfl) rfl (spM_within d h x 1 7) ?_
  rw [ea]
  refine r_aload_n (zdk oM_start 5 rfl) rfl rfl ?_
  refine r_geti (kf := 3) (zdk oM_start 6 rfl) rfl rfl (by decide) lF_M_75 rfl ?_
  rw [eb]
  refine r_callV2i (M' := mM_goes) (zdk oM_start 7 rfl) lM_M_85 vM_goes rfl rfl (Nat.le_of_ble_eq_true rfl) rfl (spM_goes d h a b) ?_
  rw [hab]
  refine r_if_ne (tgt := 19) (zdk oM_start 8 rfl) (by decide) (fun q9 => absurd ((rfl)) q9) (fun _ => ?_)
  refine r_vret (zdk oM_start 9 rfl) rfl ?_
  refine zUi ?_
  cases a with
  | false => rfl
  | true =>
    cases b with
    | false => rfl
    | true => exact absurd hab (by decide)
/-- a run of the reference begins -/
def zMSt (h : zH) (np : Nat) (h' : zH) : Prop := h'.1 27 0 = 0 ∧ h'.1 27 10 = nI np ∧ h'.1 27 11 = 0 ∧ (∀ j, j < 7 → h'.1 33 j = nI (2 ^ np - 1)) ∧ (∀ p v, p < np → v < 5 → h'.1 34 (5 * p + v) = if v = 1 then (if h.1 28 3 < h.1 32 p then h.1 28 3 else h.1 32 p) else 0) ∧ (∀ p, p < np → h'.1 36 p = -1) ∧ (∀ a j, ¬ (a = 27 ∧ (j = 0 ∨ j = 10 ∨ j = 11)) → a ≠ 33 → a ≠ 34 → a ≠ 36 → a ≠ 44 → a ≠ 45 → a ≠ 46 → h'.1 a j = h.1 a j) ∧ h'.2 = h.2
theorem spM_start (d : Nat) (h : zH) (np : Nat) (np1 : 1 ≤ np) (np7 : np ≤ 7) (hc : h.1 27 3 = fBo true) : zSP (d + 1) 0 0 mM_start [.inr (.inr 27), .inl (nI np)] h (fun r h' => r = .inl none ∧ zMSt h np h') := by
  suffices main : ∀ K : zR → zH → Prop, (∀ h', zMSt h np h' → K (.inl none) h') → zSP (d + 1) 0 0 mM_start [.inr (.inr 27), .inl (nI np)] h K from main _ (fun h' q => ⟨rfl, q⟩)
  intro K hK
  have loop : ∀ (k p : Nat) (H : zH), p + k = np → H.1 27 0 = 0 → H.1 27 10 = nI np → H.1 27 11 = 0 → (∀ j, j < 7 → H.1 33 j = nI (2 ^ np - 1)) → (∀ i v, i < p → v < 5 → H.1 34 (5 * i + v) = if v = 1 then (if h.1 28 3 < h.1 32 i then h.1 28 3 else h.1 32 i) else 0) → (∀ i, i < p → H.1 36 i = -1) → (∀ a j, ¬ (a = 27 ∧ (j = 0 ∨ j = 10 ∨ j = 11)) → a ≠ 33 → a ≠ 34 → a ≠ 36 → H.1 a j = h.1 a j) → H.2 = h.2 →
      zMC false (d + 1) 0 0 0 0 mM_start K 35 [some (.inr (.inr 27)), some (.inl (nI np)), some (.inl (nI p))] [] H := by
    intro k
    induction k with
    | zero =>
      intro p H hp e0 e1 e2 e3 e4 e5 ho hl
      have e : p = np := by omega
      subst e
      refine r_iload_n (zdk oM_start 20 rfl) rfl rfl ?_
      refine r_iload_n (zdk oM_start 21 rfl) rfl rfl ?_
      refine r_icmp_ge (tgt := 64) (zdk oM_start 22 rfl) (by decide) (fun _ => ?_) (fun q9 => absurd ((Int32.le_refl (nI p))) q9)
      refine r_aload_n (zdk oM_start 37 rfl) rfl rfl ?_
      refine r_callV0v (M' := mM_keep) (zdk oM_start 38 rfl) lM_M_173 vM_keep rfl rfl (Nat.le_of_ble_eq_true rfl) rfl (spM_keep d H) ?_
      refine r_vret (zdk oM_start 39 rfl) rfl ?_
      refine hK _ ⟨?_, ?_, ?_, ?_, ?_, ?_, ?_, hl⟩
      · simp only [zcp1]; rw [if_neg (by omega), if_neg (by omega), if_neg (by omega), e0]
      · simp only [zcp1]; rw [if_neg (by omega), if_neg (by omega), if_neg (by omega), e1]
      · simp only [zcp1]; rw [if_neg (by omega), if_neg (by omega), if_neg (by omega), e2]
      · intro j hj
        simp only [zcp1]; rw [if_neg (by omega), if_neg (by omega), if_neg (by omega), e3 j hj]
      · intro i v hi hv
        simp only [zcp1]
        rw [if_neg (show ¬ (34 = 46 ∧ 5 * i + v < 7) by omega), if_neg (show ¬ (34 = 45 ∧ 5 * i + v < 7) by omega), if_neg (show ¬ (34 = 44 ∧ 5 * i + v < 35) by omega), e4 i v hi hv]
      · intro i hi
        simp only [zcp1]; rw [if_neg (by omega), if_neg (by omega), if_neg (by omega), e5 i hi]
      · intro a j c1 c2 c3 c4 c5 c6 c7
        simp only [zcp1]; rw [if_neg (fun z => c7 z.1), if_neg (fun z => c6 z.1), if_neg (fun z => c5 z.1)]
        exact ho a j c1 c2 c3 c4
    | succ k ih =>
      intro p H hp e0 e1 e2 e3 e4 e5 ho hl
      have ep : (nI p).toNatClampNeg = p := nI_clamp (by omega)
      have w3 : H.1 28 3 = h.1 28 3 := ho 28 3 (by omega) (by decide) (by decide) (by decide)
      have i3 : H.1 32 p = h.1 32 p := ho 32 p (by omega) (by decide) (by decide) (by decide)
      refine r_iload_n (zdk oM_start 20 rfl) rfl rfl ?_
      refine r_iload_n (zdk oM_start 21 rfl) rfl rfl ?_
      refine r_icmp_ge (tgt := 64) (zdk oM_start 22 rfl) (by decide) (fun q9 => absurd q9 ((nI_ge (a := p) (b := np) (by omega) (by omega)))) (fun _ => ?_)
      refine r_aload_n (zdk oM_start 23 rfl) rfl rfl ?_
      refine r_iload_n (zdk oM_start 24 rfl) rfl rfl ?_
      refine r_aload_n (zdk oM_start 25 rfl) rfl rfl ?_
      refine r_getr (kf := 9) (zdk oM_start 26 rfl) rfl rfl (by decide) lF_M_22 rfl ?_
      refine r_iload_n (zdk oM_start 27 rfl) rfl rfl ?_
      refine r_iald (zdk oM_start 28 rfl) rfl (vp_in_nI (n := p) (by omega) (by decide)) ?_
      rw [ep, i3]
      refine r_callV2v (M' := mM_begin) (zdk oM_start 29 rfl) lM_M_170 vM_begin rfl rfl (Nat.le_of_ble_eq_true rfl) rfl (spM_begin d H p (h.1 32 p) (by omega)) ?_
      refine r_aload_n (zdk oM_start 30 rfl) rfl rfl ?_
      refine r_getr (kf := 15) (zdk oM_start 31 rfl) rfl rfl (by decide) lF_M_34 rfl ?_
      refine r_iload_n (zdk oM_start 32 rfl) rfl rfl ?_
      refine r_iconst (v := -1) (zdk oM_start 33 rfl) (by decide) ?_
      refine r_iast (zdk oM_start 34 rfl) rfl (vp_in_nI (n := p) (by omega) (by decide)) ?_
      first | refine r_iinc (zdk oM_start 35 rfl) rfl (zinc _) rfl ?_ | refine r_iinc (zdk oM_start 35 rfl) rfl rfl rfl ?_
      refine r_goto (tgt := 35) (zdk oM_start 36 rfl) (by decide) ?_
      rw [ep]
      refine ih (p + 1) _ (by omega) ?_ ?_ ?_ ?_ ?_ ?_ ?_ hl
      · rw [zp1, if_neg (by omega), zMbg1, if_neg (by omega), e0]
      · rw [zp1, if_neg (by omega), zMbg1, if_neg (by omega), e1]
      · rw [zp1, if_neg (by omega), zMbg1, if_neg (by omega), e2]
      · intro j hj
        rw [zp1, if_neg (by omega), zMbg1, if_neg (by omega), e3 j hj]
      · intro i v hi hv
        rw [zp1, if_neg (by omega), zMbg1, w3]
        by_cases q : i = p
        · subst q
          rw [if_pos (show 34 = 34 ∧ 5 * i ≤ 5 * i + v ∧ 5 * i + v < 5 * i + 5 by omega)]
          by_cases q1 : v = 1
          · rw [if_pos (show 5 * i + v = 5 * i + 1 by omega), if_pos q1]
          · rw [if_neg (show ¬ 5 * i + v = 5 * i + 1 by omega), if_neg q1]
        · rw [if_neg (show ¬ (34 = 34 ∧ 5 * p ≤ 5 * i + v ∧ 5 * i + v < 5 * p + 5) by omega)]
          exact e4 i v (by omega) hv
      · intro i hi
        rw [zp1]
        by_cases q : i = p
        · rw [if_pos ⟨rfl, q⟩]
        · rw [if_neg (by omega), zMbg1, if_neg (by omega)]; exact e5 i (by omega)
      · intro a j c1 c2 c3 c4
        rw [zp1, if_neg (fun z => c4 z.1), zMbg1, if_neg (fun z => c3 z.1)]; exact ho a j c1 c2 c3 c4
  refine zmet (by decide +kernel) (Nat.le_of_ble_eq_true rfl) ?_
  refine r_aload_n (zdk oM_start 0 rfl) rfl rfl ?_
  refine r_iload_n (zdk oM_start 1 rfl) rfl rfl ?_
  refine r_iconst (v := 1) (zdk oM_start 2 rfl) (by decide) ?_
  refine r_bipush (v := 7) (zdk oM_start 3 rfl) (by decide) ?_
  refine r_callS3i (M' := mM_within) (zdk oM_start 4 rfl) lM_M_100 sM_within (Nat.le_of_ble_eq_true rfl) rfl (spM_within d h (nI np) 1 7) ?_
  rw [zw_t (v := nI np) (lo := 1) (hi := 7) ⟨Int32.not_lt.mpr (nI_lel (a := 1) np1 (by omega)), Int32.not_lt.mpr (nI_lel (b := 7) np7 (by decide))⟩]
  refine r_aload_n (zdk oM_start 5 rfl) rfl rfl ?_
  refine r_geti (kf := 3) (zdk oM_start 6 rfl) rfl rfl (by decide) lF_M_75 rfl ?_
  rw [hc]
  refine r_callV2i (M' := mM_goes) (zdk oM_start 7 rfl) lM_M_85 vM_goes rfl rfl (Nat.le_of_ble_eq_true rfl) rfl (spM_goes d h true true) ?_
  refine r_if_ne (tgt := 19) (zdk oM_start 8 rfl) (by decide) (fun _ => ?_) (fun q9 => absurd q9 ((fBo_t)))
  refine r_aload_n (zdk oM_start 10 rfl) rfl rfl ?_
  refine r_iload_n (zdk oM_start 11 rfl) rfl rfl ?_
  refine r_puti (kf := 10) (zdk oM_start 12 rfl) rfl rfl (by decide) lF_M_79 rfl rfl (by decide +kernel) (Or.inl rfl) ?_
  refine r_aload_n (zdk oM_start 13 rfl) rfl rfl ?_
  refine r_iconst (v := 0) (zdk oM_start 14 rfl) (by decide) ?_
  refine r_puti (kf := 11) (zdk oM_start 15 rfl) rfl rfl (by decide) lF_M_164 rfl rfl (by decide +kernel) (Or.inl rfl) ?_
  refine r_aload_n (zdk oM_start 16 rfl) rfl rfl ?_
  refine r_callV0v (M' := mM_hearAll) (zdk oM_start 17 rfl) lM_M_167 vM_hearAll rfl rfl (Nat.le_of_ble_eq_true rfl) rfl (spM_hearAll d _ np (by simp [zp1]) np7) ?_
  refine r_iconst (v := 0) (zdk oM_start 18 rfl) (by decide) ?_
  refine r_istore_n (zdk oM_start 19 rfl) rfl (Nat.le_of_ble_eq_true rfl) rfl ?_
  refine loop np 0 _ (by omega) ?_ ?_ ?_ ?_ (fun i v hi => by omega) (fun i hi => by omega) ?_ rfl
  · rw [zf1, if_neg (by omega)]; simp [zp1]
  · rw [zf1, if_neg (by omega)]; simp [zp1]
  · rw [zf1, if_neg (by omega)]; simp [zp1]
  · intro j hj
    rw [zf1, if_pos ⟨rfl, hj⟩]
  · intro a j c1 c2 c3 c4
    rw [zf1, if_neg (fun z => c2 z.1)]
    simp only [zp1]
    rw [if_neg (by omega), if_neg (by omega), if_neg (by omega)]
theorem spM_round_t (d : Nat) (h : zH) (hx : h.1 27 10 ≤ 0 ∨ 60 ≤ h.1 27 11) : zSP (d + 1) 0 0 mM_round [.inr (.inr 27)] h (zRef h 1) := by
  have mid : zMC false (d + 1) 0 0 0 0 mM_round (zRef h 1) 21 [some (.inr (.inr 27))] [.inr (.inr 27)] h := by
    refine r_iconst (v := 0) (zdk oM_round 10 rfl) (by decide) ?_
    refine r_iconst (v := 1) (zdk oM_round 11 rfl) (by decide) ?_
    refine r_callV2i (M' := mM_goes) (zdk oM_round 12 rfl) lM_M_85 vM_goes rfl rfl (Nat.le_of_ble_eq_true rfl) rfl (spM_goes d h false true) ?_
    refine r_if_ne (tgt := 31) (zdk oM_round 13 rfl) (by decide) (fun q9 => absurd ((rfl)) q9) (fun _ => ?_)
    refine r_iconst (v := 0) (zdk oM_round 14 rfl) (by decide) ?_
    refine r_iret (zdk oM_round 15 rfl) rfl ?_
    exact zIi rfl
  refine zmet (by decide +kernel) (Nat.le_of_ble_eq_true rfl) ?_
  refine r_aload_n (zdk oM_round 0 rfl) rfl rfl ?_
  refine r_aload_n (zdk oM_round 1 rfl) rfl rfl ?_
  refine r_geti (kf := 10) (zdk oM_round 2 rfl) rfl rfl (by decide) lF_M_79 rfl ?_
  refine r_if_le (tgt := 21) (zdk oM_round 3 rfl) (by decide) (fun h1 => ?_) (fun h1 => ?_)
  · exact mid
  · refine r_aload_n (zdk oM_round 4 rfl) rfl rfl ?_
    refine r_geti (kf := 11) (zdk oM_round 5 rfl) rfl rfl (by decide) lF_M_164 rfl ?_
    refine r_bipush (v := 60) (zdk oM_round 6 rfl) (by decide) ?_
    refine r_icmp_ge (tgt := 21) (zdk oM_round 7 rfl) (by decide) (fun _ => ?_) (fun q9 => absurd ((hx.resolve_left h1)) q9)
    exact mid
theorem spM_round (d : Nat) (h : zH) (n ph vars np r : Nat) (hck : zMck h n ph vars) (hn : n ≤ 400) (np1 : 1 ≤ np) (np7 : np ≤ 7) (hr : r < 60) (kp : h.1 27 10 = nI np) (kr : h.1 27 11 = nI r) (hval : ∀ p v, p < np → v < vars → fGood (h.1 34 (5 * p + v))) (hs : ∀ p, p < np → ∃ k, k < 2 ^ np ∧ h.1 33 p = nI k) :
    zSP (d + 5) 0 0 mM_round [.inr (.inr 27)] h (fun r0 h' => r0 = .inl (some (.inl (nI (r + 1)))) ∧ ∃ h1, zMGo (zput h 27 0 0) n ph vars np r h1 ∧ h' = zfill (zput h1 27 11 (nI (r + 1))) 33 7 (nI (2 ^ np - 1))) := by
  have o1 : ∀ a j, ¬ (a = 27 ∧ j = 0) → (zput h 27 0 0).1 a j = h.1 a j := fun a j ha => by rw [zp1, if_neg ha]
  refine zmet (by decide +kernel) (Nat.le_of_ble_eq_true rfl) ?_
  refine r_aload_n (zdk oM_round 0 rfl) rfl rfl ?_
  refine r_aload_n (zdk oM_round 1 rfl) rfl rfl ?_
  refine r_geti (kf := 10) (zdk oM_round 2 rfl) rfl rfl (by decide) lF_M_79 rfl ?_
  rw [kp]
  refine r_if_le (tgt := 21) (zdk oM_round 3 rfl) (by decide) (fun q9 => absurd q9 ((nI_nz (by omega) (by omega)))) (fun _ => ?_)
  refine r_aload_n (zdk oM_round 4 rfl) rfl rfl ?_
  refine r_geti (kf := 11) (zdk oM_round 5 rfl) rfl rfl (by decide) lF_M_164 rfl ?_
  refine r_bipush (v := 60) (zdk oM_round 6 rfl) (by decide) ?_
  rw [kr]
  refine r_icmp_ge (tgt := 21) (zdk oM_round 7 rfl) (by decide) (fun q9 => absurd q9 ((nI_ge (a := r) (b := 60) hr (by decide)))) (fun _ => ?_)
  refine r_iconst (v := 1) (zdk oM_round 8 rfl) (by decide) ?_
  refine r_goto (tgt := 22) (zdk oM_round 9 rfl) (by decide) ?_
  refine r_iconst (v := 1) (zdk oM_round 11 rfl) (by decide) ?_
  refine r_callV2i (M' := mM_goes) (zdk oM_round 12 rfl) lM_M_85 vM_goes rfl rfl (Nat.le_of_ble_eq_true rfl) rfl (spM_goes (d + 4) h true true) ?_
  refine r_if_ne (tgt := 31) (zdk oM_round 13 rfl) (by decide) (fun _ => ?_) (fun q9 => absurd q9 ((fBo_t)))
  refine r_aload_n (zdk oM_round 16 rfl) rfl rfl ?_
  refine r_aload_n (zdk oM_round 17 rfl) rfl rfl ?_
  refine r_geti (kf := 10) (zdk oM_round 18 rfl) rfl rfl (by decide) lF_M_79 rfl ?_
  refine r_aload_n (zdk oM_round 19 rfl) rfl rfl ?_
  refine r_geti (kf := 11) (zdk oM_round 20 rfl) rfl rfl (by decide) lF_M_164 rfl ?_
  rw [show (zput h 27 0 (if true = false then 1 else if true = false then 2 else 0)).1 27 10 = nI np by rw [zp1, if_neg (by omega), kp], show (zput h 27 0 (if true = false then 1 else if true = false then 2 else 0)).1 27 11 = nI r by rw [zp1, if_neg (by omega), kr]]
  refine r_callV2 (M' := mM_go) (zdk oM_round 21 rfl) lM_M_180 vM_go rfl rfl (Nat.le_of_ble_eq_true rfl) rfl (spM_go d (zput h 27 0 0) n ph vars np r (zMck_congr (fun a j ha => o1 a j (by omega)) hck) hn np1 np7 (by omega) (fun p v hp hv => by rw [o1 34 _ (by omega)]; exact hval p v hp hv) (fun p hp => by rw [o1 33 _ (by omega)]; exact hs p hp)) ?_
  intro r0 h1 q
  obtain ⟨e, q⟩ := q
  cases e
  have e11 : h1.1 27 11 = nI r := by rw [q.2.2.1 27 11 (by omega) (by decide) (by decide) (by omega) (by decide), o1 27 11 (by omega), kr]
  have e10 : h1.1 27 10 = nI np := by rw [q.2.2.1 27 10 (by omega) (by decide) (by decide) (by omega) (by decide), o1 27 10 (by omega), kp]
  refine r_aload_n (zdk oM_round 22 rfl) rfl rfl ?_
  refine r_dup (zdk oM_round 23 rfl) rfl ?_
  refine r_geti (kf := 11) (zdk oM_round 24 rfl) rfl rfl (by decide) lF_M_164 rfl ?_
  rw [e11]
  refine r_iconst (v := 1) (zdk oM_round 25 rfl) (by decide) ?_
  refine r_iadd (zdk oM_round 26 rfl) ?_
  refine r_tp (nI_1 r) ?_
  refine r_puti (kf := 11) (zdk oM_round 27 rfl) rfl rfl (by decide) lF_M_164 rfl rfl (by decide +kernel) (Or.inl rfl) ?_
  refine r_aload_n (zdk oM_round 28 rfl) rfl rfl ?_
  refine r_callV0v (M' := mM_hearAll) (zdk oM_round 29 rfl) lM_M_167 vM_hearAll rfl rfl (Nat.le_of_ble_eq_true rfl) rfl (spM_hearAll (d + 4) _ np (by rw [zp1, if_neg (by omega), e10]) np7) ?_
  refine r_aload_n (zdk oM_round 30 rfl) rfl rfl ?_
  refine r_geti (kf := 11) (zdk oM_round 31 rfl) rfl rfl (by decide) lF_M_164 rfl ?_
  refine r_iret (zdk oM_round 32 rfl) rfl ?_
  refine ⟨by rw [zf1, if_neg (by omega), zp1, if_pos ⟨rfl, rfl⟩], h1, q, rfl⟩
