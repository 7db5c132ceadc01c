/-! the class's search: first states -/
def fsF (R1 np c : Nat) : Nat → Nat
  | 0 => 0
  | p + 1 => (fsF R1 np c p ||| 2 ^ xQ np c p * 16 ^ 15) ||| min R1 (xQ np c p) * 16 ^ (5 * p + 1)
theorem xQ2 (np c p : Nat) : 2 ^ xQ np c p < 16 := by
  have := xQ4 np c p
  have : xQ np c p = 0 ∨ xQ np c p = 1 ∨ xQ np c p = 2 ∨ xQ np c p = 3 := by omega
  rcases this with e | e | e | e <;> rw [e] <;> decide
theorem fsF_dig {R1 np c j : Nat} (hj : j < 15) : ∀ p, xD (fsF R1 np c p) j = if j / 5 < p ∧ j % 5 = 1 then min R1 (xQ np c (j / 5)) else 0
  | 0 => by
    show 0 / 16 ^ j % 16 = _
    rw [if_neg (by omega)]; simp
  | p + 1 => by
    have hm : min R1 (xQ np c p) < 16 := by have := xQ4 np c p; omega
    show xD ((fsF R1 np c p ||| 2 ^ xQ np c p * 16 ^ 15) ||| min R1 (xQ np c p) * 16 ^ (5 * p + 1)) j = _
    rw [xD_or, xD_or, fsF_dig hj p, xD_one (xQ2 np c p), xD_one hm, if_neg (show ¬ j = 15 by omega), Nat.or_zero]
    by_cases q : j = 5 * p + 1
    · have e1 : j / 5 = p := by omega
      have e2 : j % 5 = 1 := by omega
      rw [if_pos q, if_neg (by omega), if_pos (by omega), e1, Nat.zero_or]
    · rw [if_neg q, Nat.or_zero]
      by_cases q2 : j / 5 < p ∧ j % 5 = 1
      · rw [if_pos q2, if_pos (by omega)]
      · rw [if_neg q2, if_neg (by omega)]
theorem fsF_top {R1 np c : Nat} : ∀ p, p ≤ 2 + 1 → fsF R1 np c p / 16 ^ 15 = xMs np c p
  | 0, _ => by
    show 0 / 16 ^ 15 = 0
    simp
  | p + 1, h => by
    have hm : min R1 (xQ np c p) < 16 := by have := xQ4 np c p; omega
    show ((fsF R1 np c p ||| 2 ^ xQ np c p * 16 ^ 15) ||| min R1 (xQ np c p) * 16 ^ (5 * p + 1)) / 16 ^ 15 = xMs np c p ||| 2 ^ xQ np c p
    rw [xtop_or, xtop_or, fsF_top p (by omega), Nat.mul_div_cancel _ (by decide), xtop_one hm (by omega), Nat.or_zero]
theorem fsF_eq {P : xP} (hP : xPok P) {c : Nat} : fsF (P.W 3).toNatClampNeg P.np c P.np = xF P c := by
  refine xD_ext ?_ (fun j hj => ?_)
  · have n3 := hP.n3
    rw [fsF_top P.np (by omega)]
    exact (xK_top (fun j => xFf_lt P c j)).symm
  · rw [fsF_dig hj P.np]
    unfold xF
    rw [xD_K (fun j => xFf_lt P c j) hj]
    rfl
theorem spS_firstState (d : Nat) (h : zH) (R1 np c : Nat) (hn : h.1 14 13 = nI np) (n3 : np ≤ 3) (hc : c < 64) (hR : h.1 2 3 = nI R1) (hR15 : R1 ≤ 15) : zSP (d + 1) 0 0 mS_firstState [.inr (.inr 14), .inl (nI c)] h (zJ (nJ (fsF R1 np c np)) h) := by
  suffices main : ∀ Q : zR → zH → Prop, Q (.inl (some (.inr (.inl (nJ (fsF R1 np c np)))))) h → zSP (d + 1) 0 0 mS_firstState [.inr (.inr 14), .inl (nI c)] h Q from main _ (zJi rfl)
  intro Q hQ
  have loop : ∀ (m p : Nat), p + m = np → zMC false (d + 1) 0 0 0 0 mS_firstState Q 5 [some (.inr (.inr 14)), some (.inl (nI c)), some (.inr (.inl (nJ (fsF R1 np c p)))), none, some (.inl (nI p)), none] [] h := by
    intro m
    induction m with
    | zero =>
      intro p hp
      have e : p = np := by omega
      subst e
      refine r_iload (zdk oS_firstState 4 rfl) rfl ?_
      refine r_aload_n (zdk oS_firstState 5 rfl) rfl rfl ?_
      refine r_geti (kf := 13) (zdk oS_firstState 6 rfl) rfl rfl (by decide) lF_S_47 rfl ?_
      rw [hn]
      refine r_icmp_ge (tgt := 62) (zdk oS_firstState 7 rfl) (by decide) (fun _ => ?_) (fun q9 => absurd ((Int32.le_refl (nI p))) q9)
      refine r_lload_n (zdk oS_firstState 36 rfl) rfl rfl ?_
      refine r_lret (zdk oS_firstState 37 rfl) rfl ?_
      exact hQ
    | succ m ih =>
      intro p hp
      have h4 := xQ4 np c p
      refine r_iload (zdk oS_firstState 4 rfl) rfl ?_
      refine r_aload_n (zdk oS_firstState 5 rfl) rfl rfl ?_
      refine r_geti (kf := 13) (zdk oS_firstState 6 rfl) rfl rfl (by decide) lF_S_47 rfl ?_
      rw [hn]
      refine r_icmp_ge (tgt := 62) (zdk oS_firstState 7 rfl) (by decide) (fun q9 => absurd q9 ((nI_ge (a := p) (b := np) (by omega) (by omega)))) (fun _ => ?_)
      refine r_aload_n (zdk oS_firstState 8 rfl) rfl rfl ?_
      refine r_iload_n (zdk oS_firstState 9 rfl) rfl rfl ?_
      refine r_iload (zdk oS_firstState 10 rfl) rfl ?_
      refine r_iconst (v := 2) (zdk oS_firstState 11 rfl) (by decide) ?_
      refine r_callV3i (M' := mS_digit) (zdk oS_firstState 12 rfl) lM_S_91 vS_digit rfl rfl (Nat.le_of_ble_eq_true rfl) rfl (spS_digit2 d h np c p hn n3 hc (by omega)) ?_
      refine r_istore (zdk oS_firstState 13 rfl) (Nat.le_of_ble_eq_true rfl) rfl ?_
      refine r_lload_n (zdk oS_firstState 14 rfl) rfl rfl ?_
      refine r_lconst (v := 1) (zdk oS_firstState 15 rfl) (by decide) ?_
      refine r_bipush (v := 60) (zdk oS_firstState 16 rfl) (by decide) ?_
      refine r_iload (zdk oS_firstState 17 rfl) rfl ?_
      refine r_iadd (zdk oS_firstState 18 rfl) ?_
      refine r_tp (nI_add 60 (xQ np c p)) ?_
      refine r_lshl (zdk oS_firstState 19 rfl) ?_
      rw [show (1 : Int64) = nJ 1 from rfl, nJ_shl 1 (60 + xQ np c p) (by omega), show 1 * 2 ^ (60 + xQ np c p) = 2 ^ xQ np c p * 16 ^ 15 by rw [Nat.one_mul, Nat.pow_add, Nat.mul_comm]]
      refine r_lor (zdk oS_firstState 20 rfl) ?_
      rw [nJ_or]
      refine r_lstore_n (zdk oS_firstState 21 rfl) rfl (Nat.le_of_ble_eq_true rfl) rfl ?_
      refine r_lload_n (zdk oS_firstState 22 rfl) rfl rfl ?_
      refine r_iload (zdk oS_firstState 23 rfl) rfl ?_
      refine r_aload_n (zdk oS_firstState 24 rfl) rfl rfl ?_
      refine r_getr (kf := 4) (zdk oS_firstState 25 rfl) rfl rfl (by decide) lF_S_57 rfl ?_
      refine r_iconst (v := 1) (zdk oS_firstState 26 rfl) (by decide) ?_
      refine r_callV1i (M' := mP_range) (zdk oS_firstState 27 rfl) lM_S_118 vP_range rfl rfl (Nat.le_of_ble_eq_true rfl) rfl (spP_range d h 1 (by decide)) ?_
      rw [show h.1 2 (2 + 1) = nI R1 from hR]
      refine r_mmin (zdk oS_firstState 28 rfl) lM_S_101 lX_minS lX_math lX_minC (Nat.le_of_ble_eq_true rfl) rfl ?_
      refine r_tp (nI_min (a := xQ np c p) (b := R1) (by omega) (by omega)) ?_
      rw [Nat.min_comm]
      refine r_iload (zdk oS_firstState 29 rfl) rfl ?_
      refine r_iconst (v := 1) (zdk oS_firstState 30 rfl) (by decide) ?_
      refine r_callS3j (M' := mS_packed) (zdk oS_firstState 31 rfl) lM_S_123 sS_packed (Nat.le_of_ble_eq_true rfl) rfl (spS_packed d h (min R1 (xQ np c p)) p 1 (by omega) (by omega) (by decide)) ?_
      refine r_lor (zdk oS_firstState 32 rfl) ?_
      rw [nJ_or]
      refine r_lstore_n (zdk oS_firstState 33 rfl) rfl (Nat.le_of_ble_eq_true rfl) rfl ?_
      first | refine r_iinc (zdk oS_firstState 34 rfl) rfl (zinc _) rfl ?_ | refine r_iinc (zdk oS_firstState 34 rfl) rfl rfl rfl ?_
      refine r_goto (tgt := 5) (zdk oS_firstState 35 rfl) (by decide) ?_
      refine r_mask [true, true, true, true, true, false] rfl rfl ?_
      exact ih (p + 1) (by omega)
  refine zmet (by decide +kernel) (Nat.le_of_ble_eq_true rfl) ?_
  refine r_lconst (v := 0) (zdk oS_firstState 0 rfl) (by decide) ?_
  refine r_lstore_n (zdk oS_firstState 1 rfl) rfl (Nat.le_of_ble_eq_true rfl) rfl ?_
  refine r_iconst (v := 0) (zdk oS_firstState 2 rfl) (by decide) ?_
  refine r_istore (zdk oS_firstState 3 rfl) (Nat.le_of_ble_eq_true rfl) rfl ?_
  exact loop np 0 (by omega)
def gMx (np c : Nat) : Nat → Nat
  | 0 => 0
  | p + 1 => max (gMx np c p) (xQ np c p)
theorem gMx4 (np c : Nat) : ∀ p, gMx np c p < 4
  | 0 => by show 0 < 4; decide
  | p + 1 => Nat.max_lt.mpr ⟨gMx4 np c p, xQ4 np c p⟩
theorem gMx_eq {np c dd : Nat} (hc : c < 2 ^ (2 * np)) (hd : 1 ≤ dd) : ∀ p, xFt np dd c p = decide (gMx np c p < dd)
  | 0 => by
    show decide (c < 2 ^ (2 * np)) = decide (0 < dd)
    rw [decide_eq_true hc, decide_eq_true (by omega)]
  | p + 1 => by
    show (xFt np dd c p && decide (xQ np c p < dd)) = decide (max (gMx np c p) (xQ np c p) < dd)
    rw [gMx_eq hc hd p]
    by_cases a : gMx np c p < dd
    · by_cases b : xQ np c p < dd
      · rw [decide_eq_true a, decide_eq_true b, decide_eq_true (Nat.max_lt.mpr ⟨a, b⟩)]; rfl
      · rw [decide_eq_false b, decide_eq_false (fun z => b (Nat.max_lt.mp z).2), Bool.and_false]
    · rw [decide_eq_false a, decide_eq_false (fun z => a (Nat.max_lt.mp z).1), Bool.false_and]
theorem xFt_out {np dd c : Nat} (hc : ¬ c < 2 ^ (2 * np)) : ∀ p, xFt np dd c p = false
  | 0 => decide_eq_false hc
  | p + 1 => by
    show (xFt np dd c p && _) = false
    rw [xFt_out hc p, Bool.false_and]
theorem xFs_out {P : xP} {dd N : Nat} (hN : 2 ^ (2 * P.np) ≤ N) : ∀ k, xFs P dd (N + k) = xFs P dd N
  | 0 => rfl
  | k + 1 => by
    show (if xFt P.np dd (N + k) P.np = true then _ else xFs P dd (N + k)) = _
    rw [if_neg (by rw [xFt_out (by omega)]; decide), xFs_out hN k]
theorem spS_findFirstStates (d : Nat) (h : zH) (P : xP) (hP : xPok P) (dd : Nat) (d1 : 1 ≤ dd) (d3 : dd ≤ 3) (hn : h.1 14 13 = nI P.np) (hW : h.1 2 3 = P.W 3) (h0 : zCS P 0 xZ0 h) :
    zSP (d + 2) 0 0 mS_findFirstStates [.inr (.inr 14), .inl (nI dd)] h (fun r h' => r = .inl none ∧ zCS P 0 (xFs P dd 64) h' ∧ (∀ a j, ¬ (a = 14 ∧ (j = 0 ∨ j = 14 ∨ j = 15)) → a ≠ 22 → a ≠ 23 → a ≠ 24 → h'.1 a j = h.1 a j) ∧ (∀ a j, a ≠ 21 → h'.2 a j = h.2 a j)) := by
  have n1 := hP.n1
  have n3 := hP.n3
  have v2 := hP.v2
  obtain ⟨R1, hR1, eR1⟩ := hP.rg 1 (by omega)
  have eR : (P.W 3).toNatClampNeg = R1 := by rw [show (3 : Nat) = 2 + 1 from rfl, eR1, nI_clamp (by omega)]
  obtain ⟨e2, b2⟩ := x2n n3
  suffices main : ∀ Q : zR → zH → Prop, (∀ h', zCS P 0 (xFs P dd 64) h' → (∀ a j, ¬ (a = 14 ∧ (j = 0 ∨ j = 14 ∨ j = 15)) → a ≠ 22 → a ≠ 23 → a ≠ 24 → h'.1 a j = h.1 a j) → (∀ a j, a ≠ 21 → h'.2 a j = h.2 a j) → Q (.inl none) h') → zSP (d + 2) 0 0 mS_findFirstStates [.inr (.inr 14), .inl (nI dd)] h Q from main _ (fun h' a b c => ⟨rfl, a, b, c⟩)
  intro Q hQ
  have outer : ∀ (m c : Nat) (H : zH), c + m = 2 ^ (2 * P.np) → zCS P 0 (xFs P dd c) H → (∀ a j, ¬ (a = 14 ∧ (j = 0 ∨ j = 14 ∨ j = 15)) → a ≠ 22 → a ≠ 23 → a ≠ 24 → H.1 a j = h.1 a j) → (∀ a j, a ≠ 21 → H.2 a j = h.2 a j) → zMC false (d + 2) 0 0 0 0 mS_findFirstStates Q 11 [some (.inr (.inr 14)), some (.inl (nI dd)), some (.inl (nI (2 ^ (2 * P.np)))), some (.inl (nI c)), none, none] [] H := by
    intro m
    induction m with
    | zero =>
      intro c H hc hs ho hl
      have e : c = 2 ^ (2 * P.np) := by omega
      have eo := xFs_out (P := P) (dd := dd) (N := c) (by omega) (64 - c)
      rw [show c + (64 - c) = 64 by omega] at eo
      refine r_iload_n (zdk oS_findFirstStates 9 rfl) rfl rfl ?_
      refine r_iload_n (zdk oS_findFirstStates 10 rfl) rfl rfl ?_
      refine r_icmp_ge (tgt := 75) (zdk oS_findFirstStates 11 rfl) (by decide) (fun _ => ?_) (fun q9 => absurd ((show nI (2 ^ (2 * P.np)) ≤ nI c by rw [e]; exact Int32.le_refl _)) q9)
      refine r_vret (zdk oS_findFirstStates 42 rfl) rfl ?_
      rw [eo] at hQ
      exact hQ H hs ho hl
    | succ m ih =>
      intro c H hc hs ho hl
      have eN : H.1 14 13 = nI P.np := by rw [ho 14 13 (by omega) (by decide) (by decide) (by decide), hn]
      obtain ⟨en, ee⟩ := xFs_n P dd c (by omega)
      have inner : ∀ (k p : Nat), p + k = P.np → zMC false (d + 2) 0 0 0 0 mS_findFirstStates Q 22 [some (.inr (.inr 14)), some (.inl (nI dd)), some (.inl (nI (2 ^ (2 * P.np)))), some (.inl (nI c)), some (.inl (nI (gMx P.np c p))), some (.inl (nI p))] [] H := by
        intro k
        induction k with
        | zero =>
          intro p hp
          have e : p = P.np := by omega
          subst e
          have g4 := gMx4 P.np c P.np
          have eF := gMx_eq (np := P.np) (c := c) (dd := dd) (by omega) d1 P.np
          refine r_iload (zdk oS_findFirstStates 16 rfl) rfl ?_
          refine r_aload_n (zdk oS_findFirstStates 17 rfl) rfl rfl ?_
          refine r_geti (kf := 13) (zdk oS_findFirstStates 18 rfl) rfl rfl (by decide) lF_S_47 rfl ?_
          rw [eN]
          refine r_icmp_ge (tgt := 52) (zdk oS_findFirstStates 19 rfl) (by decide) (fun _ => ?_) (fun q9 => absurd ((Int32.le_refl (nI P.np))) q9)
          refine r_iload (zdk oS_findFirstStates 30 rfl) rfl ?_
          refine r_iload_n (zdk oS_findFirstStates 31 rfl) rfl rfl ?_
          by_cases q : gMx P.np c P.np < dd
          · rw [decide_eq_true q] at eF
            have hsx : xFs P dd (c + 1) = xTry 0 (xF P c) (-1) c (xFs P dd c) := by
              show (if xFt P.np dd c P.np = true then _ else _) = _
              rw [if_pos eF]
            refine r_icmp_ge (tgt := 69) (zdk oS_findFirstStates 32 rfl) (by decide) (fun q9 => absurd q9 ((nI_ge q (by omega)))) (fun _ => ?_)
            refine r_aload_n (zdk oS_findFirstStates 33 rfl) rfl rfl ?_
            refine r_aload_n (zdk oS_findFirstStates 34 rfl) rfl rfl ?_
            refine r_iload_n (zdk oS_findFirstStates 35 rfl) rfl rfl ?_
            refine r_callV1j (M' := mS_firstState) (zdk oS_findFirstStates 36 rfl) lM_S_110 vS_firstState rfl rfl (Nat.le_of_ble_eq_true rfl) rfl (spS_firstState d H R1 P.np c eN n3 (by omega) (by rw [ho 2 3 (by omega) (by decide) (by decide) (by decide), hW, show (3 : Nat) = 2 + 1 from rfl, eR1]) hR1) ?_
            rw [show fsF R1 P.np c P.np = xF P c by rw [← eR]; exact fsF_eq hP]
            refine r_iconst (v := -1) (zdk oS_findFirstStates 37 rfl) (by decide) ?_
            refine r_iload_n (zdk oS_findFirstStates 38 rfl) rfl rfl ?_
            refine r_callV3 (M' := mS_find) (zdk oS_findFirstStates 39 rfl) lM_S_114 vS_find rfl rfl (Nat.le_of_ble_eq_true rfl) rfl (spS_find d H P (xFs P dd c) 0 (xF P c) c (-1) hs ee (xF_ok hP d3 eF) (by omega)) ?_
            intro r5 h5 q5
            obtain ⟨e5, s5, o5, l5⟩ := q5
            cases e5
            rw [← hsx] at s5
            first | refine r_iinc (zdk oS_findFirstStates 40 rfl) rfl (zinc _) rfl ?_ | refine r_iinc (zdk oS_findFirstStates 40 rfl) rfl rfl rfl ?_
            refine r_goto (tgt := 11) (zdk oS_findFirstStates 41 rfl) (by decide) ?_
            refine r_mask [true, true, true, true, false, false] rfl rfl ?_
            exact ih (c + 1) h5 (by omega) s5 (fun a j k1 k2 k3 k4 => by rw [o5 a j k1 k2 k3 k4, ho a j k1 k2 k3 k4]) (fun a j k1 => by rw [l5 a j k1, hl a j k1])
          · rw [decide_eq_false q] at eF
            have hsx : xFs P dd (c + 1) = xFs P dd c := by
              show (if xFt P.np dd c P.np = true then _ else _) = _
              rw [if_neg (by rw [eF]; decide)]
            refine r_icmp_ge (tgt := 69) (zdk oS_findFirstStates 32 rfl) (by decide) (fun _ => ?_) (fun q9 => absurd ((nI_lel (by omega) (by omega))) q9)
            first | refine r_iinc (zdk oS_findFirstStates 40 rfl) rfl (zinc _) rfl ?_ | refine r_iinc (zdk oS_findFirstStates 40 rfl) rfl rfl rfl ?_
            refine r_goto (tgt := 11) (zdk oS_findFirstStates 41 rfl) (by decide) ?_
            refine r_mask [true, true, true, true, false, false] rfl rfl ?_
            exact ih (c + 1) H (by omega) (by rw [hsx]; exact hs) ho hl
        | succ k ih2 =>
          intro p hp
          have g4 := gMx4 P.np c p
          have q4 := xQ4 P.np c p
          refine r_iload (zdk oS_findFirstStates 16 rfl) rfl ?_
          refine r_aload_n (zdk oS_findFirstStates 17 rfl) rfl rfl ?_
          refine r_geti (kf := 13) (zdk oS_findFirstStates 18 rfl) rfl rfl (by decide) lF_S_47 rfl ?_
          rw [eN]
          refine r_icmp_ge (tgt := 52) (zdk oS_findFirstStates 19 rfl) (by decide) (fun q9 => absurd q9 ((nI_ge (a := p) (b := P.np) (by omega) (by omega)))) (fun _ => ?_)
          refine r_iload (zdk oS_findFirstStates 20 rfl) rfl ?_
          refine r_aload_n (zdk oS_findFirstStates 21 rfl) rfl rfl ?_
          refine r_iload_n (zdk oS_findFirstStates 22 rfl) rfl rfl ?_
          refine r_iload (zdk oS_findFirstStates 23 rfl) rfl ?_
          refine r_iconst (v := 2) (zdk oS_findFirstStates 24 rfl) (by decide) ?_
          refine r_callV3i (M' := mS_digit) (zdk oS_findFirstStates 25 rfl) lM_S_91 vS_digit rfl rfl (Nat.le_of_ble_eq_true rfl) rfl (spS_digit2 (d + 1) H P.np c p eN n3 (by omega) (by omega)) ?_
          refine r_mmax (zdk oS_findFirstStates 26 rfl) lM_S_107 lX_maxS lX_math lX_maxC (Nat.le_of_ble_eq_true rfl) rfl ?_
          refine r_tp (nI_max (a := gMx P.np c p) (b := xQ P.np c p) (by omega) (by omega)) ?_
          refine r_istore (zdk oS_findFirstStates 27 rfl) (Nat.le_of_ble_eq_true rfl) rfl ?_
          first | refine r_iinc (zdk oS_findFirstStates 28 rfl) rfl (zinc _) rfl ?_ | refine r_iinc (zdk oS_findFirstStates 28 rfl) rfl rfl rfl ?_
          refine r_goto (tgt := 22) (zdk oS_findFirstStates 29 rfl) (by decide) ?_
          exact ih2 (p + 1) (by omega)
      refine r_iload_n (zdk oS_findFirstStates 9 rfl) rfl rfl ?_
      refine r_iload_n (zdk oS_findFirstStates 10 rfl) rfl rfl ?_
      refine r_icmp_ge (tgt := 75) (zdk oS_findFirstStates 11 rfl) (by decide) (fun q9 => absurd q9 ((nI_ge (a := c) (b := 2 ^ (2 * P.np)) (by omega) (by omega)))) (fun _ => ?_)
      refine r_iconst (v := 0) (zdk oS_findFirstStates 12 rfl) (by decide) ?_
      refine r_istore (zdk oS_findFirstStates 13 rfl) (Nat.le_of_ble_eq_true rfl) rfl ?_
      refine r_iconst (v := 0) (zdk oS_findFirstStates 14 rfl) (by decide) ?_
      refine r_istore (zdk oS_findFirstStates 15 rfl) (Nat.le_of_ble_eq_true rfl) rfl ?_
      exact inner P.np 0 (by omega)
  refine zmet (by decide +kernel) (Nat.le_of_ble_eq_true rfl) ?_
  refine r_iconst (v := 1) (zdk oS_findFirstStates 0 rfl) (by decide) ?_
  refine r_iconst (v := 2) (zdk oS_findFirstStates 1 rfl) (by decide) ?_
  refine r_aload_n (zdk oS_findFirstStates 2 rfl) rfl rfl ?_
  refine r_geti (kf := 13) (zdk oS_findFirstStates 3 rfl) rfl rfl (by decide) lF_S_47 rfl ?_
  rw [hn]
  refine r_imul (zdk oS_findFirstStates 4 rfl) ?_
  refine r_ishl (zdk oS_findFirstStates 5 rfl) ?_
  rw [e2]
  refine r_istore_n (zdk oS_findFirstStates 6 rfl) rfl (Nat.le_of_ble_eq_true rfl) rfl ?_
  refine r_iconst (v := 0) (zdk oS_findFirstStates 7 rfl) (by decide) ?_
  refine r_istore_n (zdk oS_findFirstStates 8 rfl) rfl (Nat.le_of_ble_eq_true rfl) rfl ?_
  exact outer (2 ^ (2 * P.np)) 0 h (by omega) h0 (fun _ _ _ _ _ _ => rfl) (fun _ _ _ => rfl)
