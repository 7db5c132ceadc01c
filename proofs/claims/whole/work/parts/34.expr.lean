/-! reading an expression -/
def zRE (h : zH) (D0 : Nat) (o : Nat ⊕ (Nat × Nat)) : zR → zH → Prop := fun r h' => match o with
  | .inl e => ∃ v x, r = .inl (some (.inl v)) ∧ h' = zput (zput h 1 8 x) 1 7 (nI e)
  | .inr (q, dq) => r = .inl (some (.inl (nI q))) ∧ h' = zput h 1 8 (nI (max D0 dq))
theorem nI_max {a b : Nat} (ha : a < 2 ^ 31) (hb : b < 2 ^ 31) : (if nI a < nI b then nI b else nI a) = nI (max a b) := by
  by_cases q : a < b
  · rw [if_pos ((nI_ltI ha hb).mpr q), Nat.max_eq_right (by omega)]
  · rw [if_neg (fun z => q ((nI_ltI ha hb).mp z)), Nat.max_eq_left (by omega)]
theorem nI_min {a b : Nat} (ha : a < 2 ^ 31) (hb : b < 2 ^ 31) : (if nI b < nI a then nI b else nI a) = nI (min a b) := by
  by_cases q : b < a
  · rw [if_pos ((nI_ltI hb ha).mpr q), Nat.min_eq_right (by omega)]
  · rw [if_neg (fun z => q ((nI_ltI hb ha).mp z)), Nat.min_eq_left (by omega)]
theorem nI_nm1 {a : Nat} (ha : a < 2 ^ 31) : ¬ nI a = -1 := by
  intro q
  have := congrArg Int32.toInt q
  rw [nI_toInt ha] at this
  simp at this
theorem pK_err {f : Nat → Nat ⊕ (Nat × Nat)} {B n : Nat} (hf : ∀ p e, p ≤ B → f p = .inl e → e ≤ B) (hg : ∀ p q dq, p ≤ B → f p = .inr (q, dq) → q ≤ B) : ∀ k p dp e, p ≤ B → pK f k p dp = .inl e → e ≤ B := by
  intro k
  induction k with
  | zero => intro p dp e hp h; simp [pK] at h
  | succ k ih =>
    intro p dp e hp h
    simp only [pK] at h
    cases q : f p with
    | inl x => rw [q] at h; cases h; exact hf p _ hp q
    | inr y =>
      obtain ⟨q1, d1⟩ := y
      rw [q] at h
      exact ih q1 _ e (hg p q1 d1 hp q) h
theorem pE_err {W : Nat → Int32} {n vars : Nat} {hears : Bool} : ∀ d p e, pE W n vars hears d p = .inl e → p ≤ 400 ∧ n ≤ 400 → e ≤ 1000 := by
  have key : ∀ d p e, p ≤ 400 → n ≤ 400 → pE W n vars hears d p = .inl e → e ≤ 400 := by
    intro d
    induction d with
    | zero => intro p e hp hn h; simp only [pE] at h; cases h; exact hp
    | succ d ih =>
      intro p e hp hn h
      simp only [pE] at h
      cases hc : (decide (p < n) && fCan (W p) vars hears) with
      | false => rw [hc] at h; cases h; exact hp
      | true =>
        rw [hc] at h
        have h' : pK (pE W n vars hears d) (fParts (W p)) (p + 1) (12 - d) = .inl e := h
        simp only [Bool.and_eq_true, decide_eq_true_eq] at hc
        refine pK_err (B := 400) (n := n) (fun a b ha hb => ih a b ha hn hb) (fun a q dq ha hq => ?_) _ _ _ _ (by omega) h'
        obtain ⟨-, h2, -⟩ := pE_words d a q dq hq
        omega
  intro d p e h hb
  have := key d p e hb.1 hb.2 h
  omega
theorem pK_deep {f : Nat → Nat ⊕ (Nat × Nat)} (hf : ∀ p q dq, f p = .inr (q, dq) → dq ≤ 12) : ∀ k p dp q dq, dp ≤ 12 → pK f k p dp = .inr (q, dq) → dq ≤ 12 := by
  intro k
  induction k with
  | zero => intro p dp q dq hp h; simp only [pK] at h; cases h; exact hp
  | succ k ih =>
    intro p dp q dq hp h
    simp only [pK] at h
    cases e : f p with
    | inl x => rw [e] at h; cases h
    | inr y =>
      obtain ⟨q1, d1⟩ := y
      rw [e] at h
      exact ih q1 _ q dq (by have := hf p q1 d1 e; omega) h
theorem pE_deep {W : Nat → Int32} {n vars : Nat} {hears : Bool} : ∀ d p q dq, pE W n vars hears d p = .inr (q, dq) → d ≤ 12 → dq ≤ 12 := by
  intro d
  induction d with
  | zero => intro p q dq h; simp [pE] at h
  | succ d ih =>
    intro p q dq h hd
    simp only [pE] at h
    cases hc : (decide (p < n) && fCan (W p) vars hears) with
    | false => rw [hc] at h; cases h
    | true =>
      rw [hc] at h
      exact pK_deep (fun a b c hab => ih a b c hab (by omega)) _ _ _ _ _ (by omega) h
theorem spP_readExpression : ∀ (rem d : Nat) (h : zH) (n vars p D0 : Nat) (hears : Bool), rem ≤ 12 → h.1 1 3 = nI n → n ≤ 400 → h.1 1 6 = nI vars → vars ≤ 5 → h.1 1 7 = -1 → h.1 1 8 = nI D0 → D0 ≤ 12 → p ≤ 400 →
    zSP (d + rem) 0 0 mP_readExpression [.inr (.inr 1), .inl (nI p), .inl (nI (13 - rem)), .inl (fBo hears)] h (zRE h D0 (pE (h.1 2) n vars hears rem p)) := by
  intro rem
  induction rem with
  | zero =>
    intro d h n vars p D0 hears _ hs hn hv hv5 he hD hD12 hp
    have fin : zRE h D0 (pE (h.1 2) n vars hears 0 p) (.inl (some (.inl (nI p)))) (zput h 1 7 (nI p)) := ⟨nI p, nI D0, rfl, by rw [zput_same hD]⟩
    refine zmet (by decide +kernel) (Nat.le_of_ble_eq_true rfl) ?_
    refine r_iload_n (zdk oP_readExpression 0 rfl) rfl rfl ?_
    refine r_aload_n (zdk oP_readExpression 1 rfl) rfl rfl ?_
    refine r_geti (kf := 3) (zdk oP_readExpression 2 rfl) rfl rfl (by decide) lF_P_21 rfl ?_
    refine r_icmp_ge (tgt := 31) (zdk oP_readExpression 3 rfl) (by decide) (fun hc => ?_) (fun hc => ?_)
    · refine r_aload_n (zdk oP_readExpression 16 rfl) rfl rfl ?_
      refine r_iload_n (zdk oP_readExpression 17 rfl) rfl rfl ?_
      refine r_puti (kf := 7) (zdk oP_readExpression 18 rfl) rfl rfl (by decide) lF_P_35 rfl rfl (by decide +kernel) (Or.inl rfl) ?_
      refine r_iload_n (zdk oP_readExpression 19 rfl) rfl rfl ?_
      refine r_iret (zdk oP_readExpression 20 rfl) rfl ?_
      exact fin
    · refine r_iload_n (zdk oP_readExpression 4 rfl) rfl rfl ?_
      refine r_bipush (v := 12) (zdk oP_readExpression 5 rfl) (by decide) ?_
      refine r_icmp_gt (tgt := 31) (zdk oP_readExpression 6 rfl) (by decide) (fun _ => ?_) (fun q9 => absurd ((show (12 : Int32) < nI 13 by decide)) q9)
      refine r_aload_n (zdk oP_readExpression 16 rfl) rfl rfl ?_
      refine r_iload_n (zdk oP_readExpression 17 rfl) rfl rfl ?_
      refine r_puti (kf := 7) (zdk oP_readExpression 18 rfl) rfl rfl (by decide) lF_P_35 rfl rfl (by decide +kernel) (Or.inl rfl) ?_
      refine r_iload_n (zdk oP_readExpression 19 rfl) rfl rfl ?_
      refine r_iret (zdk oP_readExpression 20 rfl) rfl ?_
      exact fin
  | succ rem IH =>
    intro d h n vars p D0 hears hr hs hn hv hv5 he hD hD12 hp
    have edep : 13 - (rem + 1) = 12 - rem := by omega
    rw [edep]
    have ep : (nI p).toNatClampNeg = p := nI_clamp (by omega)
    have fin : pE (h.1 2) n vars hears (rem + 1) p = .inl p → zRE h D0 (pE (h.1 2) n vars hears (rem + 1) p) (.inl (some (.inl (nI p)))) (zput h 1 7 (nI p)) := fun q => by
      rw [q]
      exact ⟨nI p, nI D0, rfl, by rw [zput_same hD]⟩
    refine zmet (by decide +kernel) (Nat.le_of_ble_eq_true rfl) ?_
    refine r_iload_n (zdk oP_readExpression 0 rfl) rfl rfl ?_
    refine r_aload_n (zdk oP_readExpression 1 rfl) rfl rfl ?_
    refine r_geti (kf := 3) (zdk oP_readExpression 2 rfl) rfl rfl (by decide) lF_P_21 rfl ?_
    rw [hs]
    refine r_icmp_ge (tgt := 31) (zdk oP_readExpression 3 rfl) (by decide) (fun hc => ?_) (fun hc => ?_)
    · have hpn : n ≤ p := (nI_leI (by omega) (by omega)).mp hc
      refine r_aload_n (zdk oP_readExpression 16 rfl) rfl rfl ?_
      refine r_iload_n (zdk oP_readExpression 17 rfl) rfl rfl ?_
      refine r_puti (kf := 7) (zdk oP_readExpression 18 rfl) rfl rfl (by decide) lF_P_35 rfl rfl (by decide +kernel) (Or.inl rfl) ?_
      refine r_iload_n (zdk oP_readExpression 19 rfl) rfl rfl ?_
      refine r_iret (zdk oP_readExpression 20 rfl) rfl ?_
      exact fin (by simp only [pE]; rw [show decide (p < n) = false from decide_eq_false (by omega)]; rfl)
    · have hpn : p < n := Nat.not_le.mp (fun q => hc ((nI_leI (by omega) (by omega)).mpr q))
      refine r_iload_n (zdk oP_readExpression 4 rfl) rfl rfl ?_
      refine r_bipush (v := 12) (zdk oP_readExpression 5 rfl) (by decide) ?_
      refine r_icmp_gt (tgt := 31) (zdk oP_readExpression 6 rfl) (by decide) (fun q9 => absurd q9 ((nI_nlt (a := 12) (b := 12 - rem) (by omega) (by decide)))) (fun _ => ?_)
      refine r_aload_n (zdk oP_readExpression 7 rfl) rfl rfl ?_
      refine r_getr (kf := 0) (zdk oP_readExpression 8 rfl) rfl rfl (by decide) lF_P_9 rfl ?_
      refine r_iload_n (zdk oP_readExpression 9 rfl) rfl rfl ?_
      refine r_iald (zdk oP_readExpression 10 rfl) rfl (vp_in_nI (show p < 400 by omega) (by decide)) ?_
      rw [ep]
      refine r_aload_n (zdk oP_readExpression 11 rfl) rfl rfl ?_
      refine r_geti (kf := 6) (zdk oP_readExpression 12 rfl) rfl rfl (by decide) lF_P_32 rfl ?_
      rw [hv]
      refine r_iload_n (zdk oP_readExpression 13 rfl) rfl rfl ?_
      refine r_callS3i (M' := mW_canStand) (zdk oP_readExpression 14 rfl) lM_P_59 sW_canStand (Nat.le_of_ble_eq_true rfl) rfl (spW_canStand (d + rem) (h.1 2 p) vars hv5 hears h) ?_
      refine r_if_ne (tgt := 38) (zdk oP_readExpression 15 rfl) (by decide) (fun hc2 => ?_) (fun hc2 => ?_)
      · have hcan : fCan (h.1 2 p) vars hears = true := by
          cases q : fCan (h.1 2 p) vars hears with
          | true => rfl
          | false => rw [q] at hc2; exact absurd rfl hc2
        have epE : pE (h.1 2) n vars hears (rem + 1) p = pK (pE (h.1 2) n vars hears rem) (fParts (h.1 2 p)) (p + 1) (12 - rem) := by
          simp only [pE]
          rw [hcan, show decide (p < n) = true from decide_eq_true hpn]
          rfl
        rw [epE]
        have loop : ∀ (j k b dl : Nat), k + j = fParts (h.1 2 p) → b ≤ 400 → dl ≤ 12 → zMC false (d + (rem + 1)) 0 0 0 0 mP_readExpression (zRE h D0 (pK (pE (h.1 2) n vars hears rem) j b dl)) 69 [some (.inr (.inr 1)), some (.inl (nI p)), some (.inl (nI (12 - rem))), some (.inl (fBo hears)), some (.inl (nI (fParts (h.1 2 p)))), some (.inl (nI b)), some (.inl (nI k))] [] (zput h 1 8 (nI (max D0 dl))) := by
          intro j
          have hP3 := fParts_le (h.1 2 p)
          induction j with
          | zero =>
            intro k b dl hk hb hdl
            refine r_iload (zdk oP_readExpression 39 rfl) rfl ?_
            refine r_iload (zdk oP_readExpression 40 rfl) rfl ?_
            refine r_icmp_ge (tgt := 102) (zdk oP_readExpression 41 rfl) (by decide) (fun _ => ?_) (fun q9 => absurd ((show nI (fParts (h.1 2 p)) ≤ nI k by rw [show k = fParts (h.1 2 p) by omega]; exact Int32.le_refl _)) q9)
            refine r_iload (zdk oP_readExpression 56 rfl) rfl ?_
            refine r_iret (zdk oP_readExpression 57 rfl) rfl ?_
            exact ⟨rfl, rfl⟩
          | succ j ih =>
            intro k b dl hk hb hdl
            have g7 : (zput h 1 8 (nI (max D0 dl))).1 1 7 = -1 := by simp [zp1, he]
            have g3 : (zput h 1 8 (nI (max D0 dl))).1 1 3 = nI n := by simp [zp1, hs]
            have g6 : (zput h 1 8 (nI (max D0 dl))).1 1 6 = nI vars := by simp [zp1, hv]
            have g8 : (zput h 1 8 (nI (max D0 dl))).1 1 8 = nI (max D0 dl) := by simp [zp1]
            have g2 : (zput h 1 8 (nI (max D0 dl))).1 2 = h.1 2 := by funext i; simp [zp1]
            refine r_iload (zdk oP_readExpression 39 rfl) rfl ?_
            refine r_iload (zdk oP_readExpression 40 rfl) rfl ?_
            refine r_icmp_ge (tgt := 102) (zdk oP_readExpression 41 rfl) (by decide) (fun q9 => absurd q9 ((nI_ge (a := k) (b := fParts (h.1 2 p)) (by omega) (by omega)))) (fun _ => ?_)
            refine r_aload_n (zdk oP_readExpression 42 rfl) rfl rfl ?_
            refine r_geti (kf := 7) (zdk oP_readExpression 43 rfl) rfl rfl (by decide) lF_P_35 rfl ?_
            refine r_iconst (v := -1) (zdk oP_readExpression 44 rfl) (by decide) ?_
            rw [g7]
            refine r_icmp_ne (tgt := 102) (zdk oP_readExpression 45 rfl) (by decide) (fun q9 => absurd ((rfl : (-1 : Int32) = -1)) q9) (fun _ => ?_)
            refine r_aload_n (zdk oP_readExpression 46 rfl) rfl rfl ?_
            refine r_iload (zdk oP_readExpression 47 rfl) rfl ?_
            refine r_iload_n (zdk oP_readExpression 48 rfl) rfl rfl ?_
            refine r_iconst (v := 1) (zdk oP_readExpression 49 rfl) (by decide) ?_
            refine r_iadd (zdk oP_readExpression 50 rfl) ?_
            refine r_tp (show nI (12 - rem) + 1 = nI (13 - rem) by rw [nI_1]; congr 1; omega) ?_
            refine r_iload_n (zdk oP_readExpression 51 rfl) rfl rfl ?_
            refine r_callV3 (M' := mP_readExpression) (zdk oP_readExpression 52 rfl) lM_P_51 vP_readExpression rfl rfl (Nat.le_of_ble_eq_true rfl) rfl (IH d _ n vars b (max D0 dl) hears (by omega) g3 hn g6 hv5 g7 g8 (by omega) hb) ?_
            intro r h' hk'
            rw [g2] at hk'
            cases ef : pE (h.1 2) n vars hears rem b with
            | inl x =>
              rw [ef] at hk'
              obtain ⟨v, y, e1, e2⟩ := hk'
              cases e1
              have epk : pK (pE (h.1 2) n vars hears rem) (j + 1) b dl = .inl x := by simp only [pK, ef]
              rw [epk]
              have eh : h' = zput (zput h 1 8 y) 1 7 (nI x) := by rw [e2, zput_zput]
              rw [eh]
              have hx : x ≤ 1000 := by
                exact pE_err rem b x ef (by omega)
              refine r_istore (zdk oP_readExpression 53 rfl) (Nat.le_of_ble_eq_true rfl) rfl ?_
              first | refine r_iinc (zdk oP_readExpression 54 rfl) rfl (zinc _) rfl ?_ | refine r_iinc (zdk oP_readExpression 54 rfl) rfl rfl rfl ?_
              refine r_goto (tgt := 69) (zdk oP_readExpression 55 rfl) (by decide) ?_
              refine r_iload (zdk oP_readExpression 39 rfl) rfl ?_
              refine r_iload (zdk oP_readExpression 40 rfl) rfl ?_
              refine r_icmp_ge (tgt := 102) (zdk oP_readExpression 41 rfl) (by decide) (fun _ => ?_) (fun _ => ?_)
              · refine r_iload (zdk oP_readExpression 56 rfl) rfl ?_
                refine r_iret (zdk oP_readExpression 57 rfl) rfl ?_
                exact ⟨v, y, rfl, rfl⟩
              · refine r_aload_n (zdk oP_readExpression 42 rfl) rfl rfl ?_
                refine r_geti (kf := 7) (zdk oP_readExpression 43 rfl) rfl rfl (by decide) lF_P_35 rfl ?_
                refine r_iconst (v := -1) (zdk oP_readExpression 44 rfl) (by decide) ?_
                refine r_icmp_ne (tgt := 102) (zdk oP_readExpression 45 rfl) (by decide) (fun q => ?_) (fun q => ?_)
                · refine r_iload (zdk oP_readExpression 56 rfl) rfl ?_
                  refine r_iret (zdk oP_readExpression 57 rfl) rfl ?_
                  exact ⟨v, y, rfl, rfl⟩
                · exfalso
                  simp [zp1] at q
                  exact nI_nm1 (by omega) q
            | inr y =>
              obtain ⟨q, dq⟩ := y
              rw [ef] at hk'
              obtain ⟨e1, e2⟩ := hk'
              cases e1
              have epk : pK (pE (h.1 2) n vars hears rem) (j + 1) b dl = pK (pE (h.1 2) n vars hears rem) j q (max dl dq) := by simp only [pK, ef]
              rw [epk]
              have eh : h' = zput h 1 8 (nI (max D0 (max dl dq))) := by rw [e2, zput_zput, Nat.max_assoc]
              rw [eh]
              obtain ⟨w1, w2, -⟩ := pE_words rem b q dq ef
              have hdq := pE_deep rem b q dq ef (by omega)
              refine r_istore (zdk oP_readExpression 53 rfl) (Nat.le_of_ble_eq_true rfl) rfl ?_
              first | refine r_iinc (zdk oP_readExpression 54 rfl) rfl (zinc _) rfl ?_ | refine r_iinc (zdk oP_readExpression 54 rfl) rfl rfl rfl ?_
              refine r_goto (tgt := 69) (zdk oP_readExpression 55 rfl) (by decide) ?_
              exact ih (k + 1) q (max dl dq) (by omega) (by omega) (by omega)
        refine r_aload_n (zdk oP_readExpression 21 rfl) rfl rfl ?_
        refine r_aload_n (zdk oP_readExpression 22 rfl) rfl rfl ?_
        refine r_geti (kf := 8) (zdk oP_readExpression 23 rfl) rfl rfl (by decide) lF_P_38 rfl ?_
        rw [hD]
        refine r_iload_n (zdk oP_readExpression 24 rfl) rfl rfl ?_
        refine r_mmax (zdk oP_readExpression 25 rfl) lM_P_65 lX_maxS lX_math lX_maxC (Nat.le_of_ble_eq_true rfl) rfl ?_
        refine r_tp (nI_max (a := D0) (b := 12 - rem) (by omega) (by omega)) ?_
        refine r_puti (kf := 8) (zdk oP_readExpression 26 rfl) rfl rfl (by decide) lF_P_38 rfl rfl (by decide +kernel) (Or.inl rfl) ?_
        refine r_aload_n (zdk oP_readExpression 27 rfl) rfl rfl ?_
        refine r_getr (kf := 0) (zdk oP_readExpression 28 rfl) rfl rfl (by decide) lF_P_9 rfl ?_
        refine r_iload_n (zdk oP_readExpression 29 rfl) rfl rfl ?_
        refine r_iald (zdk oP_readExpression 30 rfl) rfl (vp_in_nI (show p < 400 by omega) (by decide)) ?_
        have g2 : (zput h 1 8 (nI (max D0 (12 - rem)))).1 2 (nI p).toNatClampNeg = h.1 2 p := by rw [ep]; simp [zp1]
        rw [g2]
        refine r_callS1i (M' := mW_parts) (zdk oP_readExpression 31 rfl) lM_P_71 sW_parts (Nat.le_of_ble_eq_true rfl) rfl (spW_parts (d + rem) (h.1 2 p) _) ?_
        refine r_istore (zdk oP_readExpression 32 rfl) (Nat.le_of_ble_eq_true rfl) rfl ?_
        refine r_iload_n (zdk oP_readExpression 33 rfl) rfl rfl ?_
        refine r_iconst (v := 1) (zdk oP_readExpression 34 rfl) (by decide) ?_
        refine r_iadd (zdk oP_readExpression 35 rfl) ?_
        refine r_tp (nI_1 p) ?_
        refine r_istore (zdk oP_readExpression 36 rfl) (Nat.le_of_ble_eq_true rfl) rfl ?_
        refine r_iconst (v := 0) (zdk oP_readExpression 37 rfl) (by decide) ?_
        refine r_istore (zdk oP_readExpression 38 rfl) (Nat.le_of_ble_eq_true rfl) rfl ?_
        exact loop (fParts (h.1 2 p)) 0 (p + 1) (12 - rem) (by omega) (by omega) (by omega)
      · have hcan : fCan (h.1 2 p) vars hears = false := fBo_0.mp hc2
        refine r_aload_n (zdk oP_readExpression 16 rfl) rfl rfl ?_
        refine r_iload_n (zdk oP_readExpression 17 rfl) rfl rfl ?_
        refine r_puti (kf := 7) (zdk oP_readExpression 18 rfl) rfl rfl (by decide) lF_P_35 rfl rfl (by decide +kernel) (Or.inl rfl) ?_
        refine r_iload_n (zdk oP_readExpression 19 rfl) rfl rfl ?_
        refine r_iret (zdk oP_readExpression 20 rfl) rfl ?_
        exact fin (by simp only [pE]; rw [hcan, Bool.and_false]; rfl)
