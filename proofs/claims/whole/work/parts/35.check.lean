/-! check: all expressions one behind another -/
def qE (W : Nat → Int32) (n vars : Nat) : Nat → Nat ⊕ Nat
  | 0 => .inr (2 + vars)
  | e + 1 => match qE W n vars e with
    | .inl x => .inl x
    | .inr p => match pE W n vars (decide (¬ e % (vars + 1) = 0)) 12 p with
      | .inl x => .inl x
      | .inr (q, _) => .inr q
/-- the first error, or -1 -/
def fErr (W : Nat → Int32) (n : Nat) : Int32 := if fHe W n = -1 then (match qE W n (W 1).toNatClampNeg ((W 0).toNatClampNeg * ((W 1).toNatClampNeg + 1)) with
  | .inl x => nI x
  | .inr p => if p < n then nI p else -1) else fHe W n
/-- begin, end and depth of expression e -/
def qP (W : Nat → Int32) (n vars e p q dd : Nat) : Prop := qE W n vars e = .inr p ∧ pE W n vars (decide (¬ e % (vars + 1) = 0)) 12 p = .inr (q, dd)
theorem qE_le {W : Nat → Int32} {n vars : Nat} (hv : vars ≤ 5) (hn : n ≤ 400) : ∀ e p, qE W n vars e = .inr p → p ≤ 400 := by
  intro e
  induction e with
  | zero => intro p h; simp only [qE] at h; cases h; omega
  | succ e ih =>
    intro p h
    simp only [qE] at h
    cases q : qE W n vars e with
    | inl x => rw [q] at h; cases h
    | inr p0 =>
      rw [q] at h
      simp only at h
      cases r : pE W n vars (decide (¬ e % (vars + 1) = 0)) 12 p0 with
      | inl x => rw [r] at h; cases h
      | inr y =>
        obtain ⟨q1, d1⟩ := y
        rw [r] at h
        cases h
        obtain ⟨-, h2, -⟩ := pE_words 12 p0 _ d1 r
        have := ih p0 q
        omega
theorem qE_mono {W : Nat → Int32} {n vars x : Nat} {e : Nat} : ∀ {k : Nat}, qE W n vars e = .inl x → qE W n vars (e + k) = .inl x := by
  intro k h
  induction k with
  | zero => exact h
  | succ k ih => rw [← Nat.add_assoc]; simp only [qE]; rw [ih]
theorem qE_err {W : Nat → Int32} {n vars : Nat} (hv : vars ≤ 5) (hn : n ≤ 400) : ∀ e x, qE W n vars e = .inl x → x ≤ 1000 := by
  intro e
  induction e with
  | zero => intro x h; simp [qE] at h
  | succ e ih =>
    intro x h
    simp only [qE] at h
    cases q : qE W n vars e with
    | inl y => rw [q] at h; cases h; exact ih _ q
    | inr p0 =>
      rw [q] at h
      simp only at h
      cases r : pE W n vars (decide (¬ e % (vars + 1) = 0)) 12 p0 with
      | inl y => rw [r] at h; cases h; exact pE_err 12 p0 _ r ⟨qE_le hv hn e p0 q, hn⟩
      | inr y =>
        obtain ⟨q1, d1⟩ := y
        rw [r] at h
        cases h
/-- what a checked program has, as the class keeps it -/
def zChk (h : zH) (n ph vars : Nat) : Prop := h.1 1 5 = nI ph ∧ h.1 1 6 = nI vars ∧ 1 ≤ ph ∧ ph ≤ 4 ∧ 2 ≤ vars ∧ vars ≤ 5 ∧ ∀ e, e < ph * (vars + 1) → ∃ p q dd, qP (h.1 2) n vars e p q dd ∧ h.1 3 e = nI p ∧ h.1 3 (e + 1) = nI q ∧ h.1 4 e = nI dd
def zFE (h : zH) (n : Nat) : zR → zH → Prop := fun r h' =>
  r = .inl (some (.inl (fErr (h.1 2) n))) ∧ (∀ p j, ¬ (p = 1 ∧ 4 ≤ j) → p ≠ 3 → p ≠ 4 → h'.1 p j = h.1 p j) ∧ h'.2 = h.2 ∧ h'.1 1 4 = fBo (decide (fErr (h.1 2) n = -1)) ∧
    (fErr (h.1 2) n = -1 → ∃ ph vars, h.1 2 0 = nI ph ∧ h.1 2 1 = nI vars ∧ zChk h' n ph vars)
theorem spP_findError (d : Nat) (h : zH) (n : Nat) (hs : h.1 1 3 = nI n) (hn : n ≤ 400) : zSP (d + 13) 0 0 mP_findError [.inr (.inr 1)] h (zFE h n) := by
  have tail : ∀ (H : zH) (v er : Int32) (E : Nat) (e3 : zV), E ≤ 24 → H.1 1 7 = er → H.1 1 3 = nI n → zFE h n (.inl (some (.inl (if er = -1 ∧ v < nI n then v else er)))) (zput (zput (zput H 3 E v) 1 7 (if er = -1 ∧ v < nI n then v else er)) 1 4 (fBo (decide ((if er = -1 ∧ v < nI n then v else er) = -1)))) → zMC false (d + 13) 0 0 0 0 mP_findError (zFE h n) 88 [some (.inr (.inr 1)), some (.inl v), some (.inl (nI E)), some e3] [] H := by
    intro H v er E e3 hE h7 h3 hk
    have eE : (nI E).toNatClampNeg = E := nI_clamp (by omega)
    have tail2 : ∀ (H2 : zH) (x : Int32), H2.1 1 7 = x → zFE h n (.inl (some (.inl x))) (zput H2 1 4 (fBo (decide (x = -1)))) → zMC false (d + 13) 0 0 0 0 mP_findError (zFE h n) 116 [some (.inr (.inr 1)), some (.inl v), some (.inl (nI E)), some e3] [] H2 := by
      intro H2 x hx hk2
      refine r_aload_n (zdk oP_findError 70 rfl) rfl rfl ?_
      refine r_aload_n (zdk oP_findError 71 rfl) rfl rfl ?_
      refine r_geti (kf := 7) (zdk oP_findError 72 rfl) rfl rfl (by decide) lF_P_35 rfl ?_
      refine r_iconst (v := -1) (zdk oP_findError 73 rfl) (by decide) ?_
      rw [hx]
      refine r_icmp_ne (tgt := 129) (zdk oP_findError 74 rfl) (by decide) (fun hc => ?_) (fun hc => ?_)
      · have e1 : decide (x = -1) = false := decide_eq_false hc
        rw [e1] at hk2
        refine r_iconst (v := 0) (zdk oP_findError 77 rfl) (by decide) ?_
        refine r_puti (kf := 4) (zdk oP_findError 78 rfl) rfl rfl (by decide) lF_P_25 rfl rfl (by decide +kernel) (Or.inr (Or.inl rfl)) ?_
        refine r_aload_n (zdk oP_findError 79 rfl) rfl rfl ?_
        refine r_geti (kf := 7) (zdk oP_findError 80 rfl) rfl rfl (by decide) lF_P_35 rfl ?_
        refine r_iret (zdk oP_findError 81 rfl) rfl ?_
        have e2 : (zput H2 1 4 0).1 1 7 = x := by simp [zp1, hx]
        rw [e2]
        exact hk2
      · have e1 : decide (x = -1) = true := decide_eq_true hc
        rw [e1] at hk2
        refine r_iconst (v := 1) (zdk oP_findError 75 rfl) (by decide) ?_
        refine r_goto (tgt := 130) (zdk oP_findError 76 rfl) (by decide) ?_
        refine r_puti (kf := 4) (zdk oP_findError 78 rfl) rfl rfl (by decide) lF_P_25 rfl rfl (by decide +kernel) (Or.inr (Or.inr rfl)) ?_
        refine r_aload_n (zdk oP_findError 79 rfl) rfl rfl ?_
        refine r_geti (kf := 7) (zdk oP_findError 80 rfl) rfl rfl (by decide) lF_P_35 rfl ?_
        refine r_iret (zdk oP_findError 81 rfl) rfl ?_
        have e2 : (zput H2 1 4 1).1 1 7 = x := by simp [zp1, hx]
        rw [e2]
        exact hk2
    refine r_aload_n (zdk oP_findError 54 rfl) rfl rfl ?_
    refine r_getr (kf := 1) (zdk oP_findError 55 rfl) rfl rfl (by decide) lF_P_15 rfl ?_
    refine r_iload_n (zdk oP_findError 56 rfl) rfl rfl ?_
    refine r_iload_n (zdk oP_findError 57 rfl) rfl rfl ?_
    refine r_iast (zdk oP_findError 58 rfl) rfl (vp_in_nI (show E < 25 by omega) (by decide)) ?_
    refine r_aload_n (zdk oP_findError 59 rfl) rfl rfl ?_
    refine r_geti (kf := 7) (zdk oP_findError 60 rfl) rfl rfl (by decide) lF_P_35 rfl ?_
    rw [eE]
    have g7 : (zput H 3 E v).1 1 7 = er := by simp [zp1, h7]
    have g3 : (zput H 3 E v).1 1 3 = nI n := by simp [zp1, h3]
    rw [g7]
    refine r_iconst (v := -1) (zdk oP_findError 61 rfl) (by decide) ?_
    refine r_icmp_ne (tgt := 116) (zdk oP_findError 62 rfl) (by decide) (fun hc => ?_) (fun hc => ?_)
    · rw [if_neg (fun q => hc q.1)] at hk
      refine tail2 _ er g7 ?_
      rw [zput_same g7] at hk
      exact hk
    · refine r_iload_n (zdk oP_findError 63 rfl) rfl rfl ?_
      refine r_aload_n (zdk oP_findError 64 rfl) rfl rfl ?_
      refine r_geti (kf := 3) (zdk oP_findError 65 rfl) rfl rfl (by decide) lF_P_21 rfl ?_
      rw [g3]
      refine r_icmp_ge (tgt := 116) (zdk oP_findError 66 rfl) (by decide) (fun hc2 => ?_) (fun hc2 => ?_)
      · rw [if_neg (fun q => Int32.not_lt.mpr hc2 q.2)] at hk
        refine tail2 _ er g7 ?_
        rw [zput_same g7] at hk
        exact hk
      · rw [if_pos ⟨hc, Int32.not_le.mp hc2⟩] at hk
        refine r_aload_n (zdk oP_findError 67 rfl) rfl rfl ?_
        refine r_iload_n (zdk oP_findError 68 rfl) rfl rfl ?_
        refine r_puti (kf := 7) (zdk oP_findError 69 rfl) rfl rfl (by decide) lF_P_35 rfl rfl (by decide +kernel) (Or.inl rfl) ?_
        exact tail2 _ v (by simp [zp1]) hk
  refine zmet (by decide +kernel) (Nat.le_of_ble_eq_true rfl) ?_
  refine r_aload_n (zdk oP_findError 0 rfl) rfl rfl ?_
  refine r_iconst (v := -1) (zdk oP_findError 1 rfl) (by decide) ?_
  refine r_puti (kf := 7) (zdk oP_findError 2 rfl) rfl rfl (by decide) lF_P_35 rfl rfl (by decide +kernel) (Or.inl rfl) ?_
  refine r_aload_n (zdk oP_findError 3 rfl) rfl rfl ?_
  have a3 : (zput h 1 7 (-1)).1 1 3 = nI n := by simp [zp1, hs]
  have a2 : (zput h 1 7 (-1)).1 2 = h.1 2 := by funext j; simp [zp1]
  refine r_callV0 (M' := mP_readHead) (zdk oP_findError 4 rfl) lM_P_47 vP_readHead rfl rfl (Nat.le_of_ble_eq_true rfl) rfl (spP_readHead (d + 11) _ n a3 hn (by simp [zp1])) ?_
  intro r h1 hk
  rw [a2] at hk
  obtain ⟨ph, vs, e1, e2, p1, p4, v2, v5, hW⟩ := hk
  cases e1
  have b5 : h1.1 1 5 = nI ph := by rw [e2]; simp [zHd, zp1]
  have b6 : h1.1 1 6 = nI vs := by rw [e2]; simp [zHd, zp1]
  have b7 : h1.1 1 7 = fHe (h.1 2) n := by rw [e2]; simp [zHd, zp1]
  have b3 : h1.1 1 3 = nI n := by rw [e2]; simp [zHd, zp1, hs]
  have bo : ∀ p j, ¬ (p = 1 ∧ 4 ≤ j) → h1.1 p j = h.1 p j := by
    intro p j hp
    rw [e2]
    simp only [zHd, zp1]
    rw [if_neg (by omega), if_neg (by omega), if_neg (by omega), if_neg (by omega)]
  have bl : h1.2 = h.2 := by rw [e2]; rfl
  have hE : ph * (vs + 1) ≤ 24 := Nat.le_trans (Nat.mul_le_mul p4 (show vs + 1 ≤ 6 by omega)) (by decide)
  refine r_istore_n (zdk oP_findError 5 rfl) rfl (Nat.le_of_ble_eq_true rfl) rfl ?_
  refine r_aload_n (zdk oP_findError 6 rfl) rfl rfl ?_
  refine r_geti (kf := 5) (zdk oP_findError 7 rfl) rfl rfl (by decide) lF_P_29 rfl ?_
  rw [b5]
  refine r_aload_n (zdk oP_findError 8 rfl) rfl rfl ?_
  refine r_geti (kf := 6) (zdk oP_findError 9 rfl) rfl rfl (by decide) lF_P_32 rfl ?_
  rw [b6]
  refine r_iconst (v := 1) (zdk oP_findError 10 rfl) (by decide) ?_
  refine r_iadd (zdk oP_findError 11 rfl) ?_
  refine r_tp (nI_1 vs) ?_
  refine r_imul (zdk oP_findError 12 rfl) ?_
  refine r_tp (pk_mul ph (vs + 1)) ?_
  refine r_istore_n (zdk oP_findError 13 rfl) rfl (Nat.le_of_ble_eq_true rfl) rfl ?_
  refine r_iconst (v := 0) (zdk oP_findError 14 rfl) (by decide) ?_
  refine r_istore_n (zdk oP_findError 15 rfl) rfl (Nat.le_of_ble_eq_true rfl) rfl ?_
  by_cases hh : fHe (h.1 2) n = -1
  · obtain ⟨w0, w1⟩ := hW hh
    have ew0 : (h.1 2 0).toNatClampNeg = ph := by rw [w0]; exact nI_clamp (by omega)
    have ew1 : (h.1 2 1).toNatClampNeg = vs := by rw [w1]; exact nI_clamp (by omega)
    have eErr : fErr (h.1 2) n = (match qE (h.1 2) n vs (ph * (vs + 1)) with
      | .inl x => nI x
      | .inr p => if p < n then nI p else -1) := by
      unfold fErr
      rw [if_pos hh, ew0, ew1]
    have loop : ∀ (k e p : Nat) (H : zH), e + k = ph * (vs + 1) → qE (h.1 2) n vs e = .inr p → (∀ q j, ¬ (q = 1 ∧ 4 ≤ j) → q ≠ 3 → q ≠ 4 → H.1 q j = h.1 q j) → H.2 = h.2 → H.1 1 5 = nI ph → H.1 1 6 = nI vs → H.1 1 7 = -1 →
        (∀ i, i < e → ∃ p q dd, qP (h.1 2) n vs i p q dd ∧ H.1 3 i = nI p ∧ H.1 4 i = nI dd) →
        zMC false (d + 13) 0 0 0 0 mP_findError (zFE h n) 24 [some (.inr (.inr 1)), some (.inl (nI p)), some (.inl (nI (ph * (vs + 1)))), some (.inl (nI e))] [] H := by
      intro k
      induction k with
      | zero =>
        intro e p H he hq ho hl h5 h6 h7 hpr
        have ee : e = ph * (vs + 1) := by omega
        have hp4 := qE_le v5 hn e p hq
        have g3 : H.1 1 3 = nI n := by rw [ho 1 3 (by omega) (by decide) (by decide), hs]
        have g2 : H.1 2 = h.1 2 := by funext j; exact ho 2 j (by omega) (by decide) (by decide)
        refine r_iload_n (zdk oP_findError 16 rfl) rfl rfl ?_
        refine r_iload_n (zdk oP_findError 17 rfl) rfl rfl ?_
        refine r_icmp_ge (tgt := 88) (zdk oP_findError 18 rfl) (by decide) (fun _ => ?_) (fun q9 => absurd ((show nI (ph * (vs + 1)) ≤ nI e by rw [ee]; exact Int32.le_refl _)) q9)
        refine tail H (nI p) (-1) (ph * (vs + 1)) _ hE h7 g3 ?_
        have hlt : (nI p < nI n) ↔ p < n := nI_ltI (by omega) (by omega)
        rw [ee] at hq
        rw [hq] at eErr
        have eF : fErr (h.1 2) n = (if (-1 : Int32) = -1 ∧ nI p < nI n then nI p else -1) := by
          rw [eErr]
          simp only [hlt, true_and]
        rw [← eF]
        refine ⟨rfl, ?_, ?_, ?_, ?_⟩
        · intro q j c1 c3 c4
          simp only [zp1]
          rw [if_neg (by omega), if_neg (by omega), if_neg (by omega)]
          exact ho q j c1 c3 c4
        · exact hl
        · simp [zp1]
        · intro hF
          have hpn : ¬ p < n := by
            intro z
            rw [eErr] at hF
            simp only [z, if_true] at hF
            exact nI_nm1 (by omega) hF
          refine ⟨ph, vs, w0, w1, ?_, ?_, p1, p4, v2, v5, ?_⟩
          · simp [zp1, h5]
          · simp [zp1, h6]
          · intro i hi
            obtain ⟨pi, qi, di, hqp, c3, c4⟩ := hpr i (by omega)
            have e2f : ∀ F : zH, (zput (zput (zput H 3 (ph * (vs + 1)) (nI p)) 1 7 (fErr (h.1 2) n)) 1 4 (fBo (decide (fErr (h.1 2) n = -1)))).1 2 = h.1 2 := by
              intro _
              funext j
              simp [zp1, g2]
            rw [e2f H]
            refine ⟨pi, qi, di, hqp, ?_, ?_, ?_⟩
            · simp only [zp1]
              rw [if_neg (by omega), if_neg (by omega), if_neg (by omega)]
              exact c3
            · simp only [zp1]
              by_cases hl2 : i + 1 = ph * (vs + 1)
              · rw [if_neg (by omega), if_neg (by omega), if_pos (by exact ⟨by trivial, hl2⟩)]
                have : qE (h.1 2) n vs (i + 1) = .inr qi := by
                  simp only [qE, hqp.1]
                  rw [hqp.2]
                rw [hl2, hq] at this
                cases this
                rfl
              · rw [if_neg (by omega), if_neg (by omega), if_neg (by omega)]
                obtain ⟨pj, qj, dj, hqj, c3j, -⟩ := hpr (i + 1) (by omega)
                have : qE (h.1 2) n vs (i + 1) = .inr qi := by
                  simp only [qE, hqp.1]
                  rw [hqp.2]
                have e5 := hqj.1
                rw [this] at e5
                cases e5
                exact c3j
            · simp only [zp1]
              rw [if_neg (by omega), if_neg (by omega), if_neg (by omega)]
              exact c4
      | succ k ih =>
        intro e p H he hq ho hl h5 h6 h7 hpr
        have hp4 := qE_le v5 hn e p hq
        have g3 : H.1 1 3 = nI n := by rw [ho 1 3 (by omega) (by decide) (by decide), hs]
        have g2 : H.1 2 = h.1 2 := by funext j; exact ho 2 j (by omega) (by decide) (by decide)
        have ee : (nI e).toNatClampNeg = e := nI_clamp (by omega)
        refine r_iload_n (zdk oP_findError 16 rfl) rfl rfl ?_
        refine r_iload_n (zdk oP_findError 17 rfl) rfl rfl ?_
        refine r_icmp_ge (tgt := 88) (zdk oP_findError 18 rfl) (by decide) (fun q9 => absurd q9 ((nI_ge (a := e) (b := ph * (vs + 1)) (by omega) (by omega)))) (fun _ => ?_)
        refine r_aload_n (zdk oP_findError 19 rfl) rfl rfl ?_
        refine r_geti (kf := 7) (zdk oP_findError 20 rfl) rfl rfl (by decide) lF_P_35 rfl ?_
        rw [h7]
        refine r_iconst (v := -1) (zdk oP_findError 21 rfl) (by decide) ?_
        refine r_icmp_ne (tgt := 88) (zdk oP_findError 22 rfl) (by decide) (fun q9 => absurd ((rfl : (-1 : Int32) = -1)) q9) (fun _ => ?_)
        refine r_aload_n (zdk oP_findError 23 rfl) rfl rfl ?_
        refine r_getr (kf := 1) (zdk oP_findError 24 rfl) rfl rfl (by decide) lF_P_15 rfl ?_
        refine r_iload_n (zdk oP_findError 25 rfl) rfl rfl ?_
        refine r_iload_n (zdk oP_findError 26 rfl) rfl rfl ?_
        refine r_iast (zdk oP_findError 27 rfl) rfl (vp_in_nI (show e < 25 by omega) (by decide)) ?_
        rw [ee]
        refine r_aload_n (zdk oP_findError 28 rfl) rfl rfl ?_
        refine r_iconst (v := 0) (zdk oP_findError 29 rfl) (by decide) ?_
        refine r_puti (kf := 8) (zdk oP_findError 30 rfl) rfl rfl (by decide) lF_P_38 rfl rfl (by decide +kernel) (Or.inl rfl) ?_
        refine r_aload_n (zdk oP_findError 31 rfl) rfl rfl ?_
        refine r_iload_n (zdk oP_findError 32 rfl) rfl rfl ?_
        refine r_iconst (v := 1) (zdk oP_findError 33 rfl) (by decide) ?_
        refine r_iload_n (zdk oP_findError 34 rfl) rfl rfl ?_
        refine r_aload_n (zdk oP_findError 35 rfl) rfl rfl ?_
        refine r_geti (kf := 6) (zdk oP_findError 36 rfl) rfl rfl (by decide) lF_P_32 rfl ?_
        have f6 : (zput (zput H 3 e (nI p)) 1 8 0).1 1 6 = nI vs := by simp [zp1, h6]
        rw [f6]
        refine r_iconst (v := 1) (zdk oP_findError 37 rfl) (by decide) ?_
        refine r_iadd (zdk oP_findError 38 rfl) ?_
        refine r_tp (nI_1 vs) ?_
        refine r_irem (zdk oP_findError 39 rfl) (nI_ne0 (n := vs + 1) (by omega) (by omega)) ?_
        refine r_tp (pk_rem (a := e) (d := vs + 1) (by omega) (by omega) (by omega)) ?_
        have key : ∀ hb : Bool, hb = decide (¬ e % (vs + 1) = 0) → zMC false (d + 13) 0 0 0 0 mP_findError (zFE h n) 68 [some (.inr (.inr 1)), some (.inl (nI p)), some (.inl (nI (ph * (vs + 1)))), some (.inl (nI e))] [.inl (fBo hb), .inl 1, .inl (nI p), .inr (.inr 1)] (zput (zput H 3 e (nI p)) 1 8 0) := by
          intro hb ehb
          have k3 : (zput (zput H 3 e (nI p)) 1 8 0).1 1 3 = nI n := by simp [zp1, g3]
          have k7 : (zput (zput H 3 e (nI p)) 1 8 0).1 1 7 = -1 := by simp [zp1, h7]
          have k8 : (zput (zput H 3 e (nI p)) 1 8 0).1 1 8 = nI 0 := by simp [zp1]; rfl
          have k2 : (zput (zput H 3 e (nI p)) 1 8 0).1 2 = h.1 2 := by funext j; simp [zp1, g2]
          refine r_callV3 (M' := mP_readExpression) (zdk oP_findError 44 rfl) lM_P_51 vP_readExpression rfl rfl (Nat.le_of_ble_eq_true rfl) rfl (spP_readExpression 12 d _ n vs p 0 hb (by decide) k3 hn f6 v5 k7 k8 (by decide) hp4) ?_
          intro r h' hk
          rw [k2] at hk
          cases ef : pE (h.1 2) n vs hb 12 p with
          | inl x =>
            rw [ef] at hk
            obtain ⟨v, y, q1, q2⟩ := hk
            cases q1
            have hx := pE_err 12 p x ef ⟨hp4, hn⟩
            have hF : fErr (h.1 2) n = nI x := by
              have hq1 : qE (h.1 2) n vs (e + 1) = .inl x := by
                simp only [qE, hq]
                rw [← ehb, ef]
              have := qE_mono (k := k) hq1
              rw [show e + 1 + k = ph * (vs + 1) by omega] at this
              rw [eErr, this]
            refine r_istore_n (zdk oP_findError 45 rfl) rfl (Nat.le_of_ble_eq_true rfl) rfl ?_
            refine r_aload_n (zdk oP_findError 46 rfl) rfl rfl ?_
            refine r_getr (kf := 2) (zdk oP_findError 47 rfl) rfl rfl (by decide) lF_P_18 rfl ?_
            refine r_iload_n (zdk oP_findError 48 rfl) rfl rfl ?_
            refine r_aload_n (zdk oP_findError 49 rfl) rfl rfl ?_
            refine r_geti (kf := 8) (zdk oP_findError 50 rfl) rfl rfl (by decide) lF_P_38 rfl ?_
            have j8 : ∃ z, h'.1 1 8 = z := ⟨_, rfl⟩
            obtain ⟨z, j8⟩ := j8
            rw [j8]
            refine r_iast (zdk oP_findError 51 rfl) rfl (vp_in_nI (show e < 24 by omega) (by decide)) ?_
            first | refine r_iinc (zdk oP_findError 52 rfl) rfl (zinc _) rfl ?_ | refine r_iinc (zdk oP_findError 52 rfl) rfl rfl rfl ?_
            refine r_goto (tgt := 24) (zdk oP_findError 53 rfl) (by decide) ?_
            refine r_iload_n (zdk oP_findError 16 rfl) rfl rfl ?_
            refine r_iload_n (zdk oP_findError 17 rfl) rfl rfl ?_
            rw [ee]
            have t7 : (zput h' 4 e z).1 1 7 = nI x := by rw [q2]; simp [zp1]
            have t3 : (zput h' 4 e z).1 1 3 = nI n := by rw [q2]; simp [zp1, g3]
            have fin : zMC false (d + 13) 0 0 0 0 mP_findError (zFE h n) 88 [some (.inr (.inr 1)), some (.inl v), some (.inl (nI (ph * (vs + 1)))), some (.inl (nI (e + 1)))] [] (zput h' 4 e z) := by
              refine tail _ v (nI x) (ph * (vs + 1)) _ hE t7 t3 ?_
              rw [if_neg (fun q => nI_nm1 (by omega) q.1)]
              refine ⟨by rw [hF], ?_, ?_, ?_, ?_⟩
              · intro q j c1 c3 c4
                rw [q2]
                simp only [zp1]
                rw [if_neg (by omega), if_neg (by omega), if_neg (by omega), if_neg (by omega), if_neg (by omega), if_neg (by omega), if_neg (by omega), if_neg (by omega)]
                exact ho q j c1 c3 c4
              · rw [q2]; exact hl
              · simp [zp1, hF]
              · intro q
                rw [hF] at q
                exact absurd q (nI_nm1 (by omega))
            refine r_icmp_ge (tgt := 88) (zdk oP_findError 18 rfl) (by decide) (fun _ => ?_) (fun _ => ?_)
            · exact fin
            · refine r_aload_n (zdk oP_findError 19 rfl) rfl rfl ?_
              refine r_geti (kf := 7) (zdk oP_findError 20 rfl) rfl rfl (by decide) lF_P_35 rfl ?_
              refine r_iconst (v := -1) (zdk oP_findError 21 rfl) (by decide) ?_
              rw [t7]
              refine r_icmp_ne (tgt := 88) (zdk oP_findError 22 rfl) (by decide) (fun _ => ?_) (fun q9 => absurd q9 ((nI_nm1 (a := x) (by omega))))
              exact fin
          | inr y =>
            obtain ⟨q, dd⟩ := y
            rw [ef] at hk
            obtain ⟨q1, q2⟩ := hk
            cases q1
            have hq1 : qE (h.1 2) n vs (e + 1) = .inr q := by
              simp only [qE, hq]
              rw [← ehb, ef]
            have hdd := pE_deep 12 p q dd ef (by decide)
            refine r_istore_n (zdk oP_findError 45 rfl) rfl (Nat.le_of_ble_eq_true rfl) rfl ?_
            refine r_aload_n (zdk oP_findError 46 rfl) rfl rfl ?_
            refine r_getr (kf := 2) (zdk oP_findError 47 rfl) rfl rfl (by decide) lF_P_18 rfl ?_
            refine r_iload_n (zdk oP_findError 48 rfl) rfl rfl ?_
            refine r_aload_n (zdk oP_findError 49 rfl) rfl rfl ?_
            refine r_geti (kf := 8) (zdk oP_findError 50 rfl) rfl rfl (by decide) lF_P_38 rfl ?_
            have j8 : h'.1 1 8 = nI dd := by rw [q2]; simp [zp1]
            rw [j8]
            refine r_iast (zdk oP_findError 51 rfl) rfl (vp_in_nI (show e < 24 by omega) (by decide)) ?_
            first | refine r_iinc (zdk oP_findError 52 rfl) rfl (zinc _) rfl ?_ | refine r_iinc (zdk oP_findError 52 rfl) rfl rfl rfl ?_
            refine r_goto (tgt := 24) (zdk oP_findError 53 rfl) (by decide) ?_
            rw [ee]
            refine ih (e + 1) q _ (by omega) hq1 ?_ ?_ ?_ ?_ ?_ ?_
            · intro q' j c1 c3 c4
              rw [q2]
              simp only [zp1]
              rw [if_neg (by omega), if_neg (by omega), if_neg (by omega), if_neg (by omega)]
              exact ho q' j c1 c3 c4
            · rw [q2]; exact hl
            · rw [q2]; simp [zp1, h5]
            · rw [q2]; simp [zp1, h6]
            · rw [q2]; simp [zp1, h7]
            · intro i hi
              by_cases hie : i = e
              · subst hie
                refine ⟨p, q, dd, ⟨hq, by rw [← ehb, ef]⟩, ?_, ?_⟩
                · rw [q2]; simp [zp1]
                · simp [zp1]
              · obtain ⟨pi, qi, di, hqp, c3, c4⟩ := hpr i (by omega)
                refine ⟨pi, qi, di, hqp, ?_, ?_⟩
                · rw [q2]; simp [zp1, hie, c3]
                · rw [q2]; simp [zp1, hie, c4]
        have hm : e % (vs + 1) < vs + 1 := Nat.mod_lt _ (by omega)
        refine r_if_eq (tgt := 67) (zdk oP_findError 40 rfl) (by decide) (fun hc => ?_) (fun hc => ?_)
        · have hz : e % (vs + 1) = 0 := by
            have := (nI_eq (a := e % (vs + 1)) (b := 0) (by omega) (by decide)).mp hc
            exact this
          refine r_iconst (v := 0) (zdk oP_findError 43 rfl) (by decide) ?_
          exact key false (by simp [hz])
        · have hz : ¬ e % (vs + 1) = 0 := fun q => hc (by rw [q]; rfl)
          refine r_iconst (v := 1) (zdk oP_findError 41 rfl) (by decide) ?_
          refine r_goto (tgt := 68) (zdk oP_findError 42 rfl) (by decide) ?_
          exact key true (by simp [hz])
    have g0 : h1.1 1 7 = -1 := by rw [b7, hh]
    exact loop (ph * (vs + 1)) 0 (2 + vs) h1 (by omega) rfl (fun q j c1 _ _ => bo q j c1) bl b5 b6 g0 (fun i hi => by omega)
  · have hF : fErr (h.1 2) n = fHe (h.1 2) n := by
      unfold fErr
      rw [if_neg hh]
    have fin : ∀ e3 : zV, zMC false (d + 13) 0 0 0 0 mP_findError (zFE h n) 88 [some (.inr (.inr 1)), some (.inl (nI (2 + vs))), some (.inl (nI (ph * (vs + 1)))), some e3] [] h1 := by
      intro e3
      refine tail h1 (nI (2 + vs)) (fHe (h.1 2) n) (ph * (vs + 1)) _ hE b7 b3 ?_
      rw [if_neg (fun q => hh q.1)]
      refine ⟨by rw [hF], ?_, ?_, ?_, ?_⟩
      · intro q j c1 c3 c4
        simp only [zp1]
        rw [if_neg (by omega), if_neg (by omega), if_neg (by omega)]
        exact bo q j c1
      · exact bl
      · simp [zp1, hF]
      · intro q
        rw [hF] at q
        exact absurd q hh
    refine r_iload_n (zdk oP_findError 16 rfl) rfl rfl ?_
    refine r_iload_n (zdk oP_findError 17 rfl) rfl rfl ?_
    refine r_icmp_ge (tgt := 88) (zdk oP_findError 18 rfl) (by decide) (fun _ => ?_) (fun _ => ?_)
    · exact fin _
    · refine r_aload_n (zdk oP_findError 19 rfl) rfl rfl ?_
      refine r_geti (kf := 7) (zdk oP_findError 20 rfl) rfl rfl (by decide) lF_P_35 rfl ?_
      refine r_iconst (v := -1) (zdk oP_findError 21 rfl) (by decide) ?_
      rw [b7]
      refine r_icmp_ne (tgt := 88) (zdk oP_findError 22 rfl) (by decide) (fun _ => ?_) (fun q9 => absurd q9 (hh))
      exact fin _
