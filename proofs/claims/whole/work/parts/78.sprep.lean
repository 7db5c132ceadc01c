/-! the class's search: hearings of a kind -/
def cCm (np c : Nat) : Nat → Nat
  | 0 => 7
  | p + 1 => cCm np c p &&& xSt np c p
def cFw (np c : Nat) : Nat → Nat
  | 0 => np
  | p + 1 => min (cFw np c p) (xBc (xSt np c p))
def cKn (np c kd : Nat) : Bool := if kd = 1 then decide (np < 2 * cFw np c np) else if kd = 2 then decide (¬ cCm np c np = 0) else if kd = 3 then decide (2 * np < 3 * cFw np c np) else true
theorem cKn_eq {np c kd : Nat} (n1 : 1 ≤ np) (n3 : np ≤ 3) (hc : c < 512) (hk : kd ≤ 3) : cKn np c kd = xLd np c kd := by
  have key : ∀ np : Fin 4, ∀ c : Fin 512, ∀ kd : Fin 4, 1 ≤ np.val → cKn np.val c.val kd.val = xLd np.val c.val kd.val := by decide +kernel
  exact key ⟨np, by omega⟩ ⟨c, hc⟩ ⟨kd, by omega⟩ n1
theorem cCm8 {np c : Nat} : ∀ p, cCm np c p < 8
  | 0 => by show 7 < 8; decide
  | p + 1 => Nat.lt_of_le_of_lt Nat.and_le_left (cCm8 p)
theorem cFw3 {np c : Nat} (h : np ≤ 3) : ∀ p, cFw np c p ≤ 3
  | 0 => h
  | p + 1 => Nat.le_trans (Nat.min_le_left _ _) (cFw3 h p)
theorem spS_isOfKind (d : Nat) (h : zH) (np c kd : Nat) (hn : h.1 14 13 = nI np) (n1 : 1 ≤ np) (n3 : np ≤ 3) (hc : c < 512) (hk : kd ≤ 3) : zSP (d + 1) 0 0 mS_isOfKind [.inr (.inr 14), .inl (nI c), .inl (nI kd)] h (zI (fBo (xLd np c kd)) h) := by
  suffices main : ∀ Q : zR → zH → Prop, Q (.inl (some (.inl (fBo (xLd np c kd))))) h → zSP (d + 1) 0 0 mS_isOfKind [.inr (.inr 14), .inl (nI c), .inl (nI kd)] h Q from main _ (zIi rfl)
  intro Q hQ
  rw [← cKn_eq n1 n3 hc hk] at hQ
  have loop : ∀ (m p : Nat), p + m = np → zMC false (d + 1) 0 0 0 0 mS_isOfKind Q 12 [some (.inr (.inr 14)), some (.inl (nI c)), some (.inl (nI kd)), some (.inl (nI (cCm np c p))), some (.inl (nI (cFw np c p))), some (.inl (nI p)), none] [] h := by
    intro m
    induction m with
    | zero =>
      intro p hp
      have e : p = np := by omega
      subst e
      have f3 := cFw3 (c := c) n3 p
      have m8 := cCm8 (np := p) (c := c) p
      unfold cKn at hQ
      refine r_iload (zdk oS_isOfKind 7 rfl) rfl ?_
      refine r_aload_n (zdk oS_isOfKind 8 rfl) rfl rfl ?_
      refine r_geti (kf := 13) (zdk oS_isOfKind 9 rfl) rfl rfl (by decide) lF_S_47 rfl ?_
      rw [hn]
      refine r_icmp_ge (tgt := 57) (zdk oS_isOfKind 10 rfl) (by decide) (fun _ => ?_) (fun q9 => absurd ((Int32.le_refl (nI p))) q9)
      refine r_iload_n (zdk oS_isOfKind 29 rfl) rfl rfl ?_
      have hk' : kd = 0 ∨ kd = 1 ∨ kd = 2 ∨ kd = 3 := by omega
      rcases hk' with rfl | rfl | rfl | rfl
      · refine r_tabOut (tgt := 130) (zdk oS_isOfKind 30 rfl) (by decide) (by decide) ?_
        refine r_iconst (v := 1) (zdk oS_isOfKind 59 rfl) (by decide) ?_
        refine r_zret (zdk oS_isOfKind 60 rfl) rfl (Or.inr rfl) ?_
        exact hQ
      · refine r_tabIn (off := 26) (tgt := 84) (zdk oS_isOfKind 30 rfl) (by decide) (by decide) rfl (by decide) ?_
        refine r_iconst (v := 2) (zdk oS_isOfKind 31 rfl) (by decide) ?_
        refine r_iload (zdk oS_isOfKind 32 rfl) rfl ?_
        refine r_imul (zdk oS_isOfKind 33 rfl) ?_
        refine r_tp (pk_mul 2 (cFw p c p)) ?_
        refine r_aload_n (zdk oS_isOfKind 34 rfl) rfl rfl ?_
        refine r_geti (kf := 13) (zdk oS_isOfKind 35 rfl) rfl rfl (by decide) lF_S_47 rfl ?_
        rw [hn]
        by_cases q : 2 * cFw p c p ≤ p
        · refine r_icmp_le (tgt := 99) (zdk oS_isOfKind 36 rfl) (by decide) (fun _ => ?_) (fun q9 => absurd ((nI_lel q (by omega))) q9)
          refine r_iconst (v := 0) (zdk oS_isOfKind 39 rfl) (by decide) ?_
          refine r_zret (zdk oS_isOfKind 40 rfl) rfl (Or.inl rfl) ?_
          rw [if_pos rfl, decide_eq_false (by omega)] at hQ
          exact hQ
        · refine r_icmp_le (tgt := 99) (zdk oS_isOfKind 36 rfl) (by decide) (fun q9 => absurd q9 ((nI_ge (a := p) (b := 2 * cFw p c p) (by omega) (by omega)))) (fun _ => ?_)
          refine r_iconst (v := 1) (zdk oS_isOfKind 37 rfl) (by decide) ?_
          refine r_goto (tgt := 100) (zdk oS_isOfKind 38 rfl) (by decide) ?_
          refine r_zret (zdk oS_isOfKind 40 rfl) rfl (Or.inr rfl) ?_
          rw [if_pos rfl, decide_eq_true (by omega)] at hQ
          exact hQ
      · refine r_tabIn (off := 43) (tgt := 101) (zdk oS_isOfKind 30 rfl) (by decide) (by decide) rfl (by decide) ?_
        refine r_iload_n (zdk oS_isOfKind 41 rfl) rfl rfl ?_
        by_cases q : cCm p c p = 0
        · refine r_if_eq (tgt := 109) (zdk oS_isOfKind 42 rfl) (by decide) (fun _ => ?_) (fun q9 => absurd ((show nI (cCm p c p) = 0 by rw [q]; rfl)) q9)
          refine r_iconst (v := 0) (zdk oS_isOfKind 45 rfl) (by decide) ?_
          refine r_zret (zdk oS_isOfKind 46 rfl) rfl (Or.inl rfl) ?_
          rw [if_neg (by decide), if_pos rfl, decide_eq_false (fun z => z q)] at hQ
          exact hQ
        · refine r_if_eq (tgt := 109) (zdk oS_isOfKind 42 rfl) (by decide) (fun q9 => absurd q9 ((fun z => q (nI_inj (by omega) (by decide) (show nI (cCm p c p) = nI 0 from z))))) (fun _ => ?_)
          refine r_iconst (v := 1) (zdk oS_isOfKind 43 rfl) (by decide) ?_
          refine r_goto (tgt := 110) (zdk oS_isOfKind 44 rfl) (by decide) ?_
          refine r_zret (zdk oS_isOfKind 46 rfl) rfl (Or.inr rfl) ?_
          rw [if_neg (by decide), if_pos rfl, decide_eq_true q] at hQ
          exact hQ
      · refine r_tabIn (off := 53) (tgt := 111) (zdk oS_isOfKind 30 rfl) (by decide) (by decide) rfl (by decide) ?_
        refine r_iconst (v := 3) (zdk oS_isOfKind 47 rfl) (by decide) ?_
        refine r_iload (zdk oS_isOfKind 48 rfl) rfl ?_
        refine r_imul (zdk oS_isOfKind 49 rfl) ?_
        refine r_tp (pk_mul 3 (cFw p c p)) ?_
        refine r_iconst (v := 2) (zdk oS_isOfKind 50 rfl) (by decide) ?_
        refine r_aload_n (zdk oS_isOfKind 51 rfl) rfl rfl ?_
        refine r_geti (kf := 13) (zdk oS_isOfKind 52 rfl) rfl rfl (by decide) lF_S_47 rfl ?_
        rw [hn]
        refine r_imul (zdk oS_isOfKind 53 rfl) ?_
        refine r_tp (pk_mul 2 p) ?_
        by_cases q : 3 * cFw p c p ≤ 2 * p
        · refine r_icmp_le (tgt := 128) (zdk oS_isOfKind 54 rfl) (by decide) (fun _ => ?_) (fun q9 => absurd ((nI_lel q (by omega))) q9)
          refine r_iconst (v := 0) (zdk oS_isOfKind 57 rfl) (by decide) ?_
          refine r_zret (zdk oS_isOfKind 58 rfl) rfl (Or.inl rfl) ?_
          rw [if_neg (by decide), if_neg (by decide), if_pos rfl, decide_eq_false (by omega)] at hQ
          exact hQ
        · refine r_icmp_le (tgt := 128) (zdk oS_isOfKind 54 rfl) (by decide) (fun q9 => absurd q9 ((nI_ge (a := 2 * p) (b := 3 * cFw p c p) (by omega) (by omega)))) (fun _ => ?_)
          refine r_iconst (v := 1) (zdk oS_isOfKind 55 rfl) (by decide) ?_
          refine r_goto (tgt := 129) (zdk oS_isOfKind 56 rfl) (by decide) ?_
          refine r_zret (zdk oS_isOfKind 58 rfl) rfl (Or.inr rfl) ?_
          rw [if_neg (by decide), if_neg (by decide), if_pos rfl, decide_eq_true (by omega)] at hQ
          exact hQ
    | succ m ih =>
      intro p hp
      have h8 := xSt8 (np := np) (c := c) (p := p) n3
      have hb : xBc (xSt np c p) ≤ 3 := by unfold xBc; omega
      have f3 := cFw3 (c := c) n3 p
      refine r_iload (zdk oS_isOfKind 7 rfl) rfl ?_
      refine r_aload_n (zdk oS_isOfKind 8 rfl) rfl rfl ?_
      refine r_geti (kf := 13) (zdk oS_isOfKind 9 rfl) rfl rfl (by decide) lF_S_47 rfl ?_
      rw [hn]
      refine r_icmp_ge (tgt := 57) (zdk oS_isOfKind 10 rfl) (by decide) (fun q9 => absurd q9 ((nI_ge (a := p) (b := np) (by omega) (by omega)))) (fun _ => ?_)
      refine r_aload_n (zdk oS_isOfKind 11 rfl) rfl rfl ?_
      refine r_iload_n (zdk oS_isOfKind 12 rfl) rfl rfl ?_
      refine r_iload (zdk oS_isOfKind 13 rfl) rfl ?_
      refine r_aload_n (zdk oS_isOfKind 14 rfl) rfl rfl ?_
      refine r_geti (kf := 13) (zdk oS_isOfKind 15 rfl) rfl rfl (by decide) lF_S_47 rfl ?_
      rw [hn]
      refine r_callV3i (M' := mS_digit) (zdk oS_isOfKind 16 rfl) lM_S_91 vS_digit rfl rfl (Nat.le_of_ble_eq_true rfl) rfl (spS_digit d h np c p hn n3 hc (by omega)) ?_
      refine r_istore (zdk oS_isOfKind 17 rfl) (Nat.le_of_ble_eq_true rfl) rfl ?_
      refine r_iload_n (zdk oS_isOfKind 18 rfl) rfl rfl ?_
      refine r_iload (zdk oS_isOfKind 19 rfl) rfl ?_
      refine r_iand (zdk oS_isOfKind 20 rfl) ?_
      refine r_tp (nI_and8 (cCm8 (np := np) (c := c) p) h8) ?_
      refine r_istore_n (zdk oS_isOfKind 21 rfl) rfl (Nat.le_of_ble_eq_true rfl) rfl ?_
      refine r_iload (zdk oS_isOfKind 22 rfl) rfl ?_
      refine r_iload (zdk oS_isOfKind 23 rfl) rfl ?_
      refine r_callS1i (M' := mI_bitCount) (zdk oS_isOfKind 24 rfl) lM_S_95 sI_bitCount (Nat.le_of_ble_eq_true rfl) rfl (spI_bitCount d h (xSt np c p) h8) ?_
      refine r_mmin (zdk oS_isOfKind 25 rfl) lM_S_101 lX_minS lX_math lX_minC (Nat.le_of_ble_eq_true rfl) rfl ?_
      refine r_tp (nI_min (a := cFw np c p) (b := xBc (xSt np c p)) (by omega) (by omega)) ?_
      refine r_istore (zdk oS_isOfKind 26 rfl) (Nat.le_of_ble_eq_true rfl) rfl ?_
      first | refine r_iinc (zdk oS_isOfKind 27 rfl) rfl (zinc _) rfl ?_ | refine r_iinc (zdk oS_isOfKind 27 rfl) rfl rfl rfl ?_
      refine r_goto (tgt := 12) (zdk oS_isOfKind 28 rfl) (by decide) ?_
      refine r_mask [true, true, true, true, true, true, false] rfl rfl ?_
      exact ih (p + 1) (by omega)
  refine zmet (by decide +kernel) (Nat.le_of_ble_eq_true rfl) ?_
  refine r_bipush (v := 7) (zdk oS_isOfKind 0 rfl) (by decide) ?_
  refine r_istore_n (zdk oS_isOfKind 1 rfl) rfl (Nat.le_of_ble_eq_true rfl) rfl ?_
  refine r_aload_n (zdk oS_isOfKind 2 rfl) rfl rfl ?_
  refine r_geti (kf := 13) (zdk oS_isOfKind 3 rfl) rfl rfl (by decide) lF_S_47 rfl ?_
  rw [hn]
  refine r_istore (zdk oS_isOfKind 4 rfl) (Nat.le_of_ble_eq_true rfl) rfl ?_
  refine r_iconst (v := 0) (zdk oS_isOfKind 5 rfl) (by decide) ?_
  refine r_istore (zdk oS_isOfKind 6 rfl) (Nat.le_of_ble_eq_true rfl) rfl ?_
  exact loop np 0 (by omega)
/-- how many hearings of the kind stand before one -/
def hN (np kd : Nat) : Nat → Nat
  | 0 => 0
  | c + 1 => hN np kd c + (if xLd np c kd = true then 1 else 0)
theorem hN_le (np kd : Nat) : ∀ c, hN np kd c ≤ c
  | 0 => Nat.le_refl 0
  | c + 1 => by
    have := hN_le np kd c
    show hN np kd c + (if xLd np c kd = true then 1 else 0) ≤ c + 1
    split <;> omega
theorem hN_mono (np kd : Nat) : ∀ k c, hN np kd c ≤ hN np kd (c + k)
  | 0, _ => Nat.le_refl _
  | k + 1, c => by
    have := hN_mono np kd k c
    show hN np kd c ≤ hN np kd (c + k) + _
    omega
theorem hN_lt {np kd c c' : Nat} (h : c < c') (hl : xLd np c kd = true) : hN np kd c < hN np kd c' := by
  have e : hN np kd (c + 1) = hN np kd c + 1 := by
    show hN np kd c + (if xLd np c kd = true then 1 else 0) = _
    rw [if_pos hl]
  have m := hN_mono np kd (c' - (c + 1)) (c + 1)
  rw [show c + 1 + (c' - (c + 1)) = c' by omega] at m
  omega
/-- the search is made ready -/
def zPre (h : zH) (np kd : Nat) (h' : zH) : Prop := h'.1 14 13 = nI np ∧ h'.1 16 2 = nI np ∧ h'.1 14 0 = 0 ∧ h'.1 14 1 = -1 ∧ h'.1 14 2 = 0 ∧ h'.1 14 14 = 0 ∧ h'.1 14 15 = 0 ∧ h'.1 14 12 = nI (hN np kd (2 ^ (np * np))) ∧ (∀ c, c < 2 ^ (np * np) → xLd np c kd = true → h'.1 25 (hN np kd c) = nI c) ∧ (∀ a j, ¬ (a = 14 ∧ (j = 0 ∨ j = 1 ∨ j = 2 ∨ j = 12 ∨ j = 13 ∨ j = 14 ∨ j = 15)) → ¬ (a = 16 ∧ j = 2) → a ≠ 25 → h'.1 a j = h.1 a j) ∧ h'.2 = h.2
theorem spS_prepare (d : Nat) (h : zH) (np kd : Nat) (n1 : 1 ≤ np) (n3 : np ≤ 3) (hk : kd ≤ 3) : zSP (d + 2) 0 0 mS_prepare [.inr (.inr 14), .inl (nI np), .inl (nI kd)] h (fun r h' => r = .inl none ∧ zPre h np kd h') := by
  suffices main : ∀ Q : zR → zH → Prop, (∀ h', zPre h np kd h' → Q (.inl none) h') → zSP (d + 2) 0 0 mS_prepare [.inr (.inr 14), .inl (nI np), .inl (nI kd)] h Q from main _ (fun h' q => ⟨rfl, q⟩)
  intro Q hQ
  obtain ⟨e2n, b2n⟩ := x2nn n3
  have loop : ∀ (m c : Nat) (H : zH), c + m = 2 ^ (np * np) → H.1 14 13 = nI np → H.1 16 2 = nI np → H.1 14 0 = 0 → H.1 14 1 = -1 → H.1 14 2 = 0 → H.1 14 14 = 0 → H.1 14 15 = 0 → H.1 14 12 = nI (hN np kd c) → (∀ c', c' < c → xLd np c' kd = true → H.1 25 (hN np kd c') = nI c') → (∀ a j, ¬ (a = 14 ∧ (j = 0 ∨ j = 1 ∨ j = 2 ∨ j = 12 ∨ j = 13 ∨ j = 14 ∨ j = 15)) → ¬ (a = 16 ∧ j = 2) → a ≠ 25 → H.1 a j = h.1 a j) → H.2 = h.2 →
      zMC false (d + 2) 0 0 0 0 mS_prepare Q 58 [some (.inr (.inr 14)), some (.inl (nI np)), some (.inl (nI kd)), some (.inl (nI (2 ^ (np * np)))), some (.inl (nI c))] [] H := by
    intro m
    induction m with
    | zero =>
      intro c H hc e1 e2 e3 e4 e5 e6 e7 e8 e9 ho hl
      have e : c = 2 ^ (np * np) := by omega
      rw [e] at e8 e9 ⊢
      refine r_iload (zdk oS_prepare 35 rfl) rfl ?_
      refine r_iload_n (zdk oS_prepare 36 rfl) rfl rfl ?_
      refine r_icmp_ge (tgt := 101) (zdk oS_prepare 37 rfl) (by decide) (fun _ => ?_) (fun q9 => absurd ((Int32.le_refl _)) q9)
      refine r_vret (zdk oS_prepare 57 rfl) rfl ?_
      exact hQ H ⟨e1, e2, e3, e4, e5, e6, e7, e8, e9, ho, hl⟩
    | succ m ih =>
      intro c H hc e1 e2 e3 e4 e5 e6 e7 e8 e9 ho hl
      have hle := hN_le np kd c
      refine r_iload (zdk oS_prepare 35 rfl) rfl ?_
      refine r_iload_n (zdk oS_prepare 36 rfl) rfl rfl ?_
      refine r_icmp_ge (tgt := 101) (zdk oS_prepare 37 rfl) (by decide) (fun q9 => absurd q9 ((nI_ge (a := c) (b := 2 ^ (np * np)) (by omega) (by omega)))) (fun _ => ?_)
      refine r_aload_n (zdk oS_prepare 38 rfl) rfl rfl ?_
      refine r_iload (zdk oS_prepare 39 rfl) rfl ?_
      refine r_iload_n (zdk oS_prepare 40 rfl) rfl rfl ?_
      refine r_callV2i (M' := mS_isOfKind) (zdk oS_prepare 41 rfl) lM_S_73 vS_isOfKind rfl rfl (Nat.le_of_ble_eq_true rfl) rfl (spS_isOfKind d H np c kd e1 n1 n3 (by omega) hk) ?_
      cases hL : xLd np c kd with
      | false =>
        have eN : hN np kd (c + 1) = hN np kd c := by
          show hN np kd c + (if xLd np c kd = true then 1 else 0) = _
          rw [if_neg (by rw [hL]; decide), Nat.add_zero]
        refine r_if_eq (tgt := 95) (zdk oS_prepare 42 rfl) (by decide) (fun _ => ?_) (fun q9 => absurd ((rfl)) q9)
        first | refine r_iinc (zdk oS_prepare 55 rfl) rfl (zinc _) rfl ?_ | refine r_iinc (zdk oS_prepare 55 rfl) rfl rfl rfl ?_
        refine r_goto (tgt := 58) (zdk oS_prepare 56 rfl) (by decide) ?_
        refine ih (c + 1) H (by omega) e1 e2 e3 e4 e5 e6 e7 (by rw [eN, e8]) ?_ ho hl
        intro c' h1 h2
        by_cases e : c' = c
        · rw [e, hL] at h2; exact absurd h2 (by decide)
        · exact e9 c' (by omega) h2
      | true =>
        have eN : hN np kd (c + 1) = hN np kd c + 1 := by
          show hN np kd c + (if xLd np c kd = true then 1 else 0) = _
          rw [if_pos hL]
        refine r_if_eq (tgt := 95) (zdk oS_prepare 42 rfl) (by decide) (fun q9 => absurd q9 ((fBo_t))) (fun _ => ?_)
        refine r_aload_n (zdk oS_prepare 43 rfl) rfl rfl ?_
        refine r_getr (kf := 10) (zdk oS_prepare 44 rfl) rfl rfl (by decide) lF_S_38 rfl ?_
        refine r_aload_n (zdk oS_prepare 45 rfl) rfl rfl ?_
        refine r_geti (kf := 12) (zdk oS_prepare 46 rfl) rfl rfl (by decide) lF_S_44 rfl ?_
        rw [e8]
        refine r_iload (zdk oS_prepare 47 rfl) rfl ?_
        refine r_iast (zdk oS_prepare 48 rfl) rfl (vp_in_nI (n := hN np kd c) (by omega) (by decide)) ?_
        refine r_aload_n (zdk oS_prepare 49 rfl) rfl rfl ?_
        refine r_dup (zdk oS_prepare 50 rfl) rfl ?_
        refine r_geti (kf := 12) (zdk oS_prepare 51 rfl) rfl rfl (by decide) lF_S_44 rfl ?_
        rw [nI_clamp (n := hN np kd c) (by omega), show (zput H 25 (hN np kd c) (nI c)).1 14 12 = nI (hN np kd c) by rw [zp1, if_neg (by omega), e8]]
        refine r_iconst (v := 1) (zdk oS_prepare 52 rfl) (by decide) ?_
        refine r_iadd (zdk oS_prepare 53 rfl) ?_
        refine r_tp (nI_1 (hN np kd c)) ?_
        refine r_puti (kf := 12) (zdk oS_prepare 54 rfl) rfl rfl (by decide) lF_S_44 rfl rfl (by decide +kernel) (Or.inl rfl) ?_
        first | refine r_iinc (zdk oS_prepare 55 rfl) rfl (zinc _) rfl ?_ | refine r_iinc (zdk oS_prepare 55 rfl) rfl rfl rfl ?_
        refine r_goto (tgt := 58) (zdk oS_prepare 56 rfl) (by decide) ?_
        have g : ∀ a j, ¬ (a = 14 ∧ j = 12) → a ≠ 25 → (zput (zput H 25 (hN np kd c) (nI c)) 14 12 (nI (hN np kd c + 1))).1 a j = H.1 a j := fun a j k1 k2 => by rw [zp1, if_neg k1, zp1, if_neg (fun z => k2 z.1)]
        refine ih (c + 1) _ (by omega) (by rw [g 14 13 (by omega) (by decide), e1]) (by rw [g 16 2 (by omega) (by decide), e2]) (by rw [g 14 0 (by omega) (by decide), e3]) (by rw [g 14 1 (by omega) (by decide), e4]) (by rw [g 14 2 (by omega) (by decide), e5]) (by rw [g 14 14 (by omega) (by decide), e6]) (by rw [g 14 15 (by omega) (by decide), e7]) (by rw [zp1, if_pos ⟨rfl, rfl⟩, eN]) ?_ ?_ hl
        · intro c' h1 h2
          rw [zp1, if_neg (by omega), zp1]
          by_cases e : c' = c
          · rw [if_pos ⟨rfl, by rw [e]⟩, e]
          · have := hN_lt (np := np) (kd := kd) (show c' < c by omega) h2
            rw [if_neg (by omega)]; exact e9 c' (by omega) h2
        · intro a j k1 k2 k3
          rw [g a j (by omega) k3]; exact ho a j k1 k2 k3
  refine zmet (by decide +kernel) (Nat.le_of_ble_eq_true rfl) ?_
  refine r_aload_n (zdk oS_prepare 0 rfl) rfl rfl ?_
  refine r_iload_n (zdk oS_prepare 1 rfl) rfl rfl ?_
  refine r_puti (kf := 13) (zdk oS_prepare 2 rfl) rfl rfl (by decide) lF_S_47 rfl rfl (by decide +kernel) (Or.inl rfl) ?_
  refine r_aload_n (zdk oS_prepare 3 rfl) rfl rfl ?_
  refine r_getr (kf := 5) (zdk oS_prepare 4 rfl) rfl rfl (by decide) lF_S_66 rfl ?_
  refine r_iload_n (zdk oS_prepare 5 rfl) rfl rfl ?_
  refine r_puti (kf := 2) (zdk oS_prepare 6 rfl) rfl rfl (by decide) lF_S_70 rfl rfl (by decide +kernel) (Or.inl rfl) ?_
  refine r_aload_n (zdk oS_prepare 7 rfl) rfl rfl ?_
  refine r_iconst (v := 0) (zdk oS_prepare 8 rfl) (by decide) ?_
  refine r_puti (kf := 0) (zdk oS_prepare 9 rfl) rfl rfl (by decide) lF_S_11 rfl rfl (by decide +kernel) (Or.inl rfl) ?_
  refine r_aload_n (zdk oS_prepare 10 rfl) rfl rfl ?_
  refine r_iconst (v := -1) (zdk oS_prepare 11 rfl) (by decide) ?_
  refine r_puti (kf := 1) (zdk oS_prepare 12 rfl) rfl rfl (by decide) lF_S_15 rfl rfl (by decide +kernel) (Or.inl rfl) ?_
  refine r_aload_n (zdk oS_prepare 13 rfl) rfl rfl ?_
  refine r_iconst (v := 0) (zdk oS_prepare 14 rfl) (by decide) ?_
  refine r_puti (kf := 2) (zdk oS_prepare 15 rfl) rfl rfl (by decide) lF_S_18 rfl rfl (by decide +kernel) (Or.inl rfl) ?_
  refine r_aload_n (zdk oS_prepare 16 rfl) rfl rfl ?_
  refine r_iconst (v := 0) (zdk oS_prepare 17 rfl) (by decide) ?_
  refine r_puti (kf := 14) (zdk oS_prepare 18 rfl) rfl rfl (by decide) lF_S_50 rfl rfl (by decide +kernel) (Or.inr (Or.inl rfl)) ?_
  refine r_aload_n (zdk oS_prepare 19 rfl) rfl rfl ?_
  refine r_iconst (v := 0) (zdk oS_prepare 20 rfl) (by decide) ?_
  refine r_puti (kf := 15) (zdk oS_prepare 21 rfl) rfl rfl (by decide) lF_S_54 rfl rfl (by decide +kernel) (Or.inl rfl) ?_
  refine r_aload_n (zdk oS_prepare 22 rfl) rfl rfl ?_
  refine r_iconst (v := 0) (zdk oS_prepare 23 rfl) (by decide) ?_
  refine r_puti (kf := 12) (zdk oS_prepare 24 rfl) rfl rfl (by decide) lF_S_44 rfl rfl (by decide +kernel) (Or.inl rfl) ?_
  generalize eg : zput (zput (zput (zput (zput (zput (zput (zput h 14 13 (nI np)) 16 2 (nI np)) 14 0 0) 14 1 (-1)) 14 2 0) 14 14 0) 14 15 0) 14 12 0 = G
  have g13 : G.1 14 13 = nI np := by rw [← eg]; simp [zp1]
  refine r_iconst (v := 1) (zdk oS_prepare 25 rfl) (by decide) ?_
  refine r_aload_n (zdk oS_prepare 26 rfl) rfl rfl ?_
  refine r_geti (kf := 13) (zdk oS_prepare 27 rfl) rfl rfl (by decide) lF_S_47 rfl ?_
  rw [g13]
  refine r_aload_n (zdk oS_prepare 28 rfl) rfl rfl ?_
  refine r_geti (kf := 13) (zdk oS_prepare 29 rfl) rfl rfl (by decide) lF_S_47 rfl ?_
  rw [g13]
  refine r_imul (zdk oS_prepare 30 rfl) ?_
  refine r_ishl (zdk oS_prepare 31 rfl) ?_
  rw [e2n]
  refine r_istore_n (zdk oS_prepare 32 rfl) rfl (Nat.le_of_ble_eq_true rfl) rfl ?_
  refine r_iconst (v := 0) (zdk oS_prepare 33 rfl) (by decide) ?_
  refine r_istore (zdk oS_prepare 34 rfl) (Nat.le_of_ble_eq_true rfl) rfl ?_
  refine loop (2 ^ (np * np)) 0 G (by omega) g13 ?_ ?_ ?_ ?_ ?_ ?_ ?_ (fun c' h1 => absurd h1 (Nat.not_lt_zero c')) ?_ (by rw [← eg]; rfl)
  · rw [← eg]; simp [zp1]
  · rw [← eg]; simp [zp1]
  · rw [← eg]; simp [zp1]
  · rw [← eg]; simp [zp1]
  · rw [← eg]; simp [zp1]
  · rw [← eg]; simp [zp1]
  · rw [← eg]; simp [zp1]; rfl
  · intro a j k1 k2 k3
    rw [← eg]
    simp only [zp1]
    rw [if_neg (by omega), if_neg (by omega), if_neg (by omega), if_neg (by omega), if_neg (by omega), if_neg (by omega), if_neg (by omega), if_neg (by omega)]
