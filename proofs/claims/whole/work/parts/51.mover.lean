theorem pK_ge {f : Nat → Nat ⊕ (Nat × Nat)} : ∀ k p dp q dq, pK f k p dp = .inr (q, dq) → dp ≤ dq := by
  intro k
  induction k with
  | zero => intro p dp q dq h; simp only [pK] at h; cases h; exact Nat.le_refl _
  | succ k ih =>
    intro p dp q dq h
    simp only [pK] at h
    cases e : f p with
    | inl x => rw [e] at h; cases h
    | inr y =>
      obtain ⟨q1, d1⟩ := y
      rw [e] at h
      have := ih q1 _ q dq h
      omega
theorem pE_ge {W : Nat → Int32} {n vars : Nat} {hears : Bool} : ∀ d p q dq, pE W n vars hears d p = .inr (q, dq) → 13 - d ≤ dq := by
  intro d p q dq h
  cases d with
  | zero => simp [pE] at h
  | succ d =>
    simp only [pE] at h
    cases hc : (decide (p < n) && fCan (W p) vars hears) with
    | false => rw [hc] at h; cases h
    | true =>
      rw [hc] at h
      have := pK_ge _ _ _ _ _ h
      omega
/-- what the reference keeps of an expression that it has read -/
def zOv (h : zH) (o : Nat ⊕ (Nat × Nat)) (p slot : Nat) : zR → zH → Prop := fun r h' => match o with
  | .inl e => r = .inl (some (.inl (-1 - nI e))) ∧ (∀ a j, a ≠ 38 → ¬ (a = 29 ∧ j = slot) → h'.1 a j = h.1 a j) ∧ h'.2 = h.2
  | .inr (q, dd) => r = .inl (some (.inl (nI q))) ∧ h'.1 29 slot = nI p ∧ h'.1 30 slot = nI q ∧ h'.1 31 slot = nI dd ∧ (∀ a j, a ≠ 38 → ¬ (a = 29 ∧ j = slot) → ¬ (a = 30 ∧ j = slot) → ¬ (a = 31 ∧ j = slot) → h'.1 a j = h.1 a j) ∧ h'.2 = h.2
theorem spM_over (d : Nat) (h : zH) (n vars p0 slot : Nat) (msg : Bool) (hmany : h.1 27 1 = nI n) (hn : n ≤ 400) (hv : h.1 27 8 = nI vars) (hv5 : vars ≤ 5) (hp0 : p0 ≤ 400) (hsl : slot < 24) :
    zSP (d + 2) 0 0 mM_over [.inr (.inr 27), .inl (nI p0), .inl (fBo msg), .inl (nI slot)] h (zOv h (pE (h.1 28) n vars (!msg) 12 p0) p0 slot) := by
  suffices main : ∀ K : zR → zH → Prop, (∀ r h', zOv h (pE (h.1 28) n vars (!msg) 12 p0) p0 slot r h' → K r h') → zSP (d + 2) 0 0 mM_over [.inr (.inr 27), .inl (nI p0), .inl (fBo msg), .inl (nI slot)] h K from main _ (fun _ _ q => q)
  intro K hK
  have esl : (nI slot).toNatClampNeg = slot := nI_clamp (by omega)
  -- one expression
  have cons : ∀ (rem : Nat), rem ≤ 12 → ∀ (p dp c : Nat) (H : zH), p ≤ 400 → 1 ≤ dp → dp ≤ 12 → 1 ≤ c → c ≤ 3 → H.1 38 (13 - rem) = nI c → (∀ a j, a ≠ 38 → ¬ (a = 29 ∧ j = slot) → H.1 a j = h.1 a j) → H.2 = h.2 → H.1 29 slot = nI p0 →
      (∀ e, pE (h.1 28) n vars (!msg) rem p = .inl e → ∀ H' : zH, (∀ a j, a ≠ 38 → ¬ (a = 29 ∧ j = slot) → H'.1 a j = h.1 a j) → H'.2 = h.2 → K (.inl (some (.inl (-1 - nI e)))) H') →
      (∀ q dq, pE (h.1 28) n vars (!msg) rem p = .inr (q, dq) → ∀ H' : zH, H'.1 38 (13 - rem) = nI (c - 1) → (∀ i, i < 13 - rem → H'.1 38 i = H.1 38 i) → (∀ a j, a ≠ 38 → H'.1 a j = H.1 a j) → H'.2 = h.2 → zMC false (d + 2) 0 0 0 0 mM_over K 120 [some (.inr (.inr 27)), some (.inl (nI p0)), some (.inl (fBo msg)), some (.inl (nI slot)), some (.inl (nI (13 - rem))), some (.inl (nI (max dp dq))), some (.inl (nI q)), none] [] H') →
      zMC false (d + 2) 0 0 0 0 mM_over K 23 [some (.inr (.inr 27)), some (.inl (nI p0)), some (.inl (fBo msg)), some (.inl (nI slot)), some (.inl (nI (13 - rem))), some (.inl (nI dp)), some (.inl (nI p)), none] [] H := by
    intro rem
    induction rem with
    | zero =>
      intro _ p dp c H hp hdp1 hdp hc1 hc3 hpt ho hl h29 he hi
      have fin : zMC false (d + 2) 0 0 0 0 mM_over K 59 [some (.inr (.inr 27)), some (.inl (nI p0)), some (.inl (fBo msg)), some (.inl (nI slot)), some (.inl (nI (13 - 0))), some (.inl (nI dp)), some (.inl (nI p)), none] [] H := by
        refine r_iconst (v := -1) (zdk oM_over 33 rfl) (by decide) ?_
        refine r_istore (zdk oM_over 34 rfl) (Nat.le_of_ble_eq_true rfl) rfl ?_
        refine r_iload (zdk oM_over 35 rfl) rfl ?_
        refine r_iconst (v := -1) (zdk oM_over 36 rfl) (by decide) ?_
        refine r_icmp_ne (tgt := 73) (zdk oM_over 37 rfl) (by decide) (fun q9 => absurd ((rfl : (-1 : Int32) = -1)) q9) (fun _ => ?_)
        refine r_iconst (v := -1) (zdk oM_over 38 rfl) (by decide) ?_
        refine r_iload (zdk oM_over 39 rfl) rfl ?_
        refine r_isub (zdk oM_over 40 rfl) ?_
        refine r_iret (zdk oM_over 41 rfl) rfl ?_
        exact he p rfl H ho hl
      refine r_iload (zdk oM_over 16 rfl) rfl ?_
      refine r_if_le (tgt := 144) (zdk oM_over 17 rfl) (by decide) (fun q9 => absurd q9 ((show ¬ nI (13 - 0) ≤ 0 by decide))) (fun _ => ?_)
      refine r_iload (zdk oM_over 18 rfl) rfl ?_
      refine r_aload_n (zdk oM_over 19 rfl) rfl rfl ?_
      refine r_geti (kf := 1) (zdk oM_over 20 rfl) rfl rfl (by decide) lF_M_82 rfl ?_
      refine r_icmp_ge (tgt := 59) (zdk oM_over 21 rfl) (by decide) (fun _ => ?_) (fun _ => ?_)
      · exact fin
      · refine r_iload (zdk oM_over 22 rfl) rfl ?_
        refine r_bipush (v := 12) (zdk oM_over 23 rfl) (by decide) ?_
        refine r_icmp_gt (tgt := 59) (zdk oM_over 24 rfl) (by decide) (fun _ => ?_) (fun q9 => absurd ((show (12 : Int32) < nI (13 - 0) by decide)) q9)
        exact fin
    | succ rem IH =>
      intro hrem p dp c H hp hdp1 hdp hc1 hc3 hpt ho hl h29 he hi
      have eD : 13 - (rem + 1) = 12 - rem := by omega
      rw [eD] at hpt hi ⊢
      have ep : (nI p).toNatClampNeg = p := nI_clamp (by omega)
      have e1 : H.1 27 1 = nI n := by rw [ho 27 1 (by decide) (by omega), hmany]
      have e8 : H.1 27 8 = nI vars := by rw [ho 27 8 (by decide) (by omega), hv]
      have e28 : H.1 28 = h.1 28 := funext (fun j => ho 28 j (by decide) (by omega))
      have err : pE (h.1 28) n vars (!msg) (rem + 1) p = .inl p → ∀ (x : Option zV) , zMC false (d + 2) 0 0 0 0 mM_over K 60 [some (.inr (.inr 27)), some (.inl (nI p0)), some (.inl (fBo msg)), some (.inl (nI slot)), some (.inl (nI (12 - rem))), some (.inl (nI dp)), some (.inl (nI p)), none] [.inl (-1)] H := by
        intro hE _
        refine r_istore (zdk oM_over 34 rfl) (Nat.le_of_ble_eq_true rfl) rfl ?_
        refine r_iload (zdk oM_over 35 rfl) rfl ?_
        refine r_iconst (v := -1) (zdk oM_over 36 rfl) (by decide) ?_
        refine r_icmp_ne (tgt := 73) (zdk oM_over 37 rfl) (by decide) (fun q9 => absurd ((rfl : (-1 : Int32) = -1)) q9) (fun _ => ?_)
        refine r_iconst (v := -1) (zdk oM_over 38 rfl) (by decide) ?_
        refine r_iload (zdk oM_over 39 rfl) rfl ?_
        refine r_isub (zdk oM_over 40 rfl) ?_
        refine r_iret (zdk oM_over 41 rfl) rfl ?_
        exact he p hE H ho hl
      refine r_iload (zdk oM_over 16 rfl) rfl ?_
      refine r_if_le (tgt := 144) (zdk oM_over 17 rfl) (by decide) (fun q9 => absurd q9 ((nI_nle (n := 12 - rem) (by omega) (by omega)))) (fun _ => ?_)
      refine r_iload (zdk oM_over 18 rfl) rfl ?_
      refine r_aload_n (zdk oM_over 19 rfl) rfl rfl ?_
      refine r_geti (kf := 1) (zdk oM_over 20 rfl) rfl rfl (by decide) lF_M_82 rfl ?_
      rw [e1]
      refine r_icmp_ge (tgt := 59) (zdk oM_over 21 rfl) (by decide) (fun hc => ?_) (fun hc => ?_)
      · have hpn : n ≤ p := (nI_leI (by omega) (by omega)).mp hc
        refine r_iconst (v := -1) (zdk oM_over 33 rfl) (by decide) ?_
        exact err (by simp only [pE]; rw [show decide (p < n) = false from decide_eq_false (by omega)]; rfl) none
      · have hpn : p < n := Nat.not_le.mp (fun q => hc ((nI_leI (by omega) (by omega)).mpr q))
        refine r_iload (zdk oM_over 22 rfl) rfl ?_
        refine r_bipush (v := 12) (zdk oM_over 23 rfl) (by decide) ?_
        refine r_icmp_gt (tgt := 59) (zdk oM_over 24 rfl) (by decide) (fun q9 => absurd q9 ((nI_nlt (a := 12) (b := 12 - rem) (by omega) (by decide)))) (fun _ => ?_)
        refine r_aload_n (zdk oM_over 25 rfl) rfl rfl ?_
        refine r_aload_n (zdk oM_over 26 rfl) rfl rfl ?_
        refine r_getr (kf := 2) (zdk oM_over 27 rfl) rfl rfl (by decide) lF_M_7 rfl ?_
        refine r_iload (zdk oM_over 28 rfl) rfl ?_
        refine r_iald (zdk oM_over 29 rfl) rfl (vp_in_nI (n := p) (by omega) (by decide)) ?_
        refine r_iload_n (zdk oM_over 30 rfl) rfl rfl ?_
        rw [ep, e28]
        refine r_callV2i (M' := mM_partsOf) (zdk oM_over 31 rfl) lM_M_116 vM_partsOf rfl rfl (Nat.le_of_ble_eq_true rfl) rfl (spM_partsOf d H (h.1 28 p) vars msg e8 hv5) ?_
        refine r_goto (tgt := 60) (zdk oM_over 32 rfl) (by decide) ?_
        by_cases hcan : fCan (h.1 28 p) vars (!msg) = true
        · rw [if_pos hcan]
          have hk3 := fParts_le (h.1 28 p)
          have epE : pE (h.1 28) n vars (!msg) (rem + 1) p = pK (pE (h.1 28) n vars (!msg) rem) (fParts (h.1 28 p)) (p + 1) (12 - rem) := by
            simp only [pE]
            rw [hcan, show decide (p < n) = true from decide_eq_true hpn]
            rfl
          rw [epE] at he hi
          generalize fParts (h.1 28 p) = k at *
          refine r_istore (zdk oM_over 34 rfl) (Nat.le_of_ble_eq_true rfl) rfl ?_
          refine r_iload (zdk oM_over 35 rfl) rfl ?_
          refine r_iconst (v := -1) (zdk oM_over 36 rfl) (by decide) ?_
          refine r_icmp_ne (tgt := 73) (zdk oM_over 37 rfl) (by decide) (fun _ => ?_) (fun q9 => absurd q9 ((nI_nm1 (a := k) (by omega))))
          have eDc : (nI (12 - rem)).toNatClampNeg = 12 - rem := nI_clamp (by omega)
          have back : zMC false (d + 2) 0 0 0 0 mM_over K 87 [some (.inr (.inr 27)), some (.inl (nI p0)), some (.inl (fBo msg)), some (.inl (nI slot)), some (.inl (nI (12 - rem))), some (.inl (nI dp)), some (.inl (nI p)), some (.inl (nI k))] [.inl (nI (max dp (12 - rem)))] H := by
            refine r_istore (zdk oM_over 48 rfl) (Nat.le_of_ble_eq_true rfl) rfl ?_
            first | refine r_iinc (zdk oM_over 49 rfl) rfl (zinc _) rfl ?_ | refine r_iinc (zdk oM_over 49 rfl) rfl rfl rfl ?_
            refine r_aload_n (zdk oM_over 50 rfl) rfl rfl ?_
            refine r_getr (kf := 20) (zdk oM_over 51 rfl) rfl rfl (by decide) lF_M_40 rfl ?_
            refine r_iload (zdk oM_over 52 rfl) rfl ?_
            refine r_dup2 (zdk oM_over 53 rfl) rfl rfl ?_
            refine r_iald (zdk oM_over 54 rfl) rfl (vp_in_nI (n := 12 - rem) (by omega) (by decide)) ?_
            rw [eDc, hpt]
            refine r_iconst (v := 1) (zdk oM_over 55 rfl) (by decide) ?_
            refine r_isub (zdk oM_over 56 rfl) ?_
            refine r_tp (show nI c - 1 = nI (c - 1) by rw [show (1 : Int32) = nI 1 from rfl, pk_sub (by omega)]) ?_
            refine r_iast (zdk oM_over 57 rfl) rfl (vp_in_nI (n := 12 - rem) (by omega) (by decide)) ?_
            refine r_iload (zdk oM_over 58 rfl) rfl ?_
            rw [eDc]
            by_cases hk0 : k = 0
            · subst hk0
              refine r_if_le (tgt := 120) (zdk oM_over 59 rfl) (by decide) (fun _ => ?_) (fun q9 => absurd ((show nI 0 ≤ 0 by decide)) q9)
              refine r_mask [true, true, true, true, true, true, true, false] rfl rfl ?_
              exact hi (p + 1) (12 - rem) rfl _ (by rw [zp1, if_pos ⟨rfl, rfl⟩]) (fun i hi => by rw [zp1, if_neg (by omega)]) (fun a j ha => by rw [zp1, if_neg (fun z => ha z.1)]) hl
            · refine r_if_le (tgt := 120) (zdk oM_over 59 rfl) (by decide) (fun q9 => absurd q9 ((nI_nle (n := k) (by omega) (by omega)))) (fun _ => ?_)
              -- the parts, one behind another
              have kk : ∀ (j b dl : Nat) (H' : zH), 1 ≤ j → j ≤ 3 → b ≤ 400 → dl ≤ 12 → H'.1 38 (13 - rem) = nI j → H'.1 38 (12 - rem) = nI (c - 1) → (∀ i, i < 12 - rem → H'.1 38 i = H.1 38 i) → (∀ a i, a ≠ 38 → H'.1 a i = H.1 a i) → H'.2 = h.2 →
                  (∀ e, pK (pE (h.1 28) n vars (!msg) rem) j b dl = .inl e → ∀ H' : zH, (∀ a j, a ≠ 38 → ¬ (a = 29 ∧ j = slot) → H'.1 a j = h.1 a j) → H'.2 = h.2 → K (.inl (some (.inl (-1 - nI e)))) H') →
                  (∀ q dq, pK (pE (h.1 28) n vars (!msg) rem) j b dl = .inr (q, dq) → ∀ H' : zH, H'.1 38 (12 - rem) = nI (c - 1) → (∀ i, i < 12 - rem → H'.1 38 i = H.1 38 i) → (∀ a j, a ≠ 38 → H'.1 a j = H.1 a j) → H'.2 = h.2 → zMC false (d + 2) 0 0 0 0 mM_over K 120 [some (.inr (.inr 27)), some (.inl (nI p0)), some (.inl (fBo msg)), some (.inl (nI slot)), some (.inl (nI (12 - rem))), some (.inl (nI (max dp dq))), some (.inl (nI q)), none] [] H') →
                  zMC false (d + 2) 0 0 0 0 mM_over K 23 [some (.inr (.inr 27)), some (.inl (nI p0)), some (.inl (fBo msg)), some (.inl (nI slot)), some (.inl (nI (13 - rem))), some (.inl (nI (max dp dl))), some (.inl (nI b)), none] [] H' := by
                intro j
                induction j with
                | zero => intro b dl H' h0; omega
                | succ j ihj =>
                  intro b dl H' _ hj3 hb hdl q1 q2 q3 q4 q5 ee ii
                  refine IH (by omega) b (max dp dl) (j + 1) H' hb (by omega) (by omega) (by omega) hj3 q1 (fun a i c1 c2 => by rw [q4 a i c1]; exact ho a i c1 c2) q5 (by rw [q4 29 slot (by decide)]; exact h29) ?_ ?_
                  · intro e hE H2 o2 l2
                    exact ee e (by simp only [pK, hE]) H2 o2 l2
                  · intro q dq hE H2 a1 a2 a3 a4
                    have epk : pK (pE (h.1 28) n vars (!msg) rem) (j + 1) b dl = pK (pE (h.1 28) n vars (!msg) rem) j q (max dl dq) := by simp only [pK, hE]
                    rw [epk] at ee ii
                    have hdq := pE_deep rem b q dq hE (by omega)
                    obtain ⟨-, w2, -⟩ := pE_words rem b q dq hE
                    have hq : q ≤ 400 := by omega
                    have e13 : (nI (13 - rem)).toNatClampNeg = 13 - rem := nI_clamp (by omega)
                    have a2' : ∀ i, i < 12 - rem → H2.1 38 i = H.1 38 i := fun i hi => by rw [a2 i (by omega)]; exact q3 i hi
                    have a2d : H2.1 38 (12 - rem) = nI (c - 1) := by rw [a2 (12 - rem) (by omega)]; exact q2
                    have a3' : ∀ a i, a ≠ 38 → H2.1 a i = H.1 a i := fun a i ha => by rw [a3 a i ha]; exact q4 a i ha
                    rw [Nat.max_assoc] 
                    refine r_iload (zdk oM_over 66 rfl) rfl ?_
                    refine r_if_le (tgt := 141) (zdk oM_over 67 rfl) (by decide) (fun q9 => absurd q9 ((nI_nle (n := 13 - rem) (by omega) (by omega)))) (fun _ => ?_)
                    refine r_aload_n (zdk oM_over 68 rfl) rfl rfl ?_
                    refine r_getr (kf := 20) (zdk oM_over 69 rfl) rfl rfl (by decide) lF_M_40 rfl ?_
                    refine r_iload (zdk oM_over 70 rfl) rfl ?_
                    refine r_iald (zdk oM_over 71 rfl) rfl (vp_in_nI (n := 13 - rem) (by omega) (by decide)) ?_
                    rw [e13, a1, Nat.add_sub_cancel]
                    by_cases hj0 : j = 0
                    · subst hj0
                      refine r_if_ne (tgt := 141) (zdk oM_over 72 rfl) (by decide) (fun q9 => absurd ((rfl : nI 0 = 0)) q9) (fun _ => ?_)
                      refine r_iinc (zdk oM_over 73 rfl) rfl (show nI (13 - rem) + Int32.ofInt (-1) = nI (12 - rem) by rw [show 13 - rem = (12 - rem) + 1 by omega]; exact zdec _) rfl ?_
                      refine r_goto (tgt := 120) (zdk oM_over 74 rfl) (by decide) ?_
                      exact ii q (max dl dq) rfl H2 a2d a2' a3' a4
                    · refine r_if_ne (tgt := 141) (zdk oM_over 72 rfl) (by decide) (fun _ => ?_) (fun q9 => absurd q9 ((nI_ne0 (n := j) (by omega) (by omega))))
                      refine r_goto (tgt := 23) (zdk oM_over 75 rfl) (by decide) ?_
                      exact ihj q (max dl dq) H2 (by omega) (by omega) hq (by omega) a1 a2d a2' a3' a4 ee ii
              refine r_iinc (zdk oM_over 60 rfl) rfl (show nI (12 - rem) + Int32.ofInt 1 = nI (13 - rem) by rw [zinc]; congr 1; omega) rfl ?_
              refine r_aload_n (zdk oM_over 61 rfl) rfl rfl ?_
              refine r_getr (kf := 20) (zdk oM_over 62 rfl) rfl rfl (by decide) lF_M_40 rfl ?_
              refine r_iload (zdk oM_over 63 rfl) rfl ?_
              refine r_iload (zdk oM_over 64 rfl) rfl ?_
              refine r_iast (zdk oM_over 65 rfl) rfl (vp_in_nI (n := 13 - rem) (by omega) (by decide)) ?_
              refine r_iload (zdk oM_over 66 rfl) rfl ?_
              have e13 : (nI (13 - rem)).toNatClampNeg = 13 - rem := nI_clamp (by omega)
              rw [e13]
              refine r_if_le (tgt := 141) (zdk oM_over 67 rfl) (by decide) (fun q9 => absurd q9 ((nI_nle (n := 13 - rem) (by omega) (by omega)))) (fun _ => ?_)
              refine r_aload_n (zdk oM_over 68 rfl) rfl rfl ?_
              refine r_getr (kf := 20) (zdk oM_over 69 rfl) rfl rfl (by decide) lF_M_40 rfl ?_
              refine r_iload (zdk oM_over 70 rfl) rfl ?_
              refine r_iald (zdk oM_over 71 rfl) rfl (vp_in_nI (n := 13 - rem) (by omega) (by decide)) ?_
              rw [e13, show (zput (zput H 38 (12 - rem) (nI (c - 1))) 38 (13 - rem) (nI k)).1 38 (13 - rem) = nI k by rw [zp1, if_pos ⟨rfl, rfl⟩]]
              refine r_if_ne (tgt := 141) (zdk oM_over 72 rfl) (by decide) (fun _ => ?_) (fun q9 => absurd q9 ((nI_ne0 (n := k) (by omega) (by omega))))
              refine r_goto (tgt := 23) (zdk oM_over 75 rfl) (by decide) ?_
              refine r_mask [true, true, true, true, true, true, true, false] rfl rfl ?_
              refine kk k (p + 1) (12 - rem) _ (by omega) hk3 (by omega) (by omega) (by rw [zp1, if_pos ⟨rfl, rfl⟩]) ?_ ?_ ?_ hl he hi
              · rw [zp1, if_neg (by omega), zp1, if_pos ⟨rfl, rfl⟩]
              · intro i hi
                rw [zp1, if_neg (by omega), zp1, if_neg (by omega)]
              · intro a i ha
                rw [zp1, if_neg (fun z => ha z.1), zp1, if_neg (fun z => ha z.1)]
          refine r_iload (zdk oM_over 42 rfl) rfl ?_
          refine r_iload (zdk oM_over 43 rfl) rfl ?_
          refine r_icmp_le (tgt := 85) (zdk oM_over 44 rfl) (by decide) (fun hc => ?_) (fun hc => ?_)
          · have hle : 12 - rem ≤ dp := (nI_leI (by omega) (by omega)).mp hc
            rw [Nat.max_eq_left hle] at back
            refine r_iload (zdk oM_over 47 rfl) rfl ?_
            exact back
          · have hle : dp ≤ 12 - rem := Nat.le_of_lt (Nat.not_le.mp (fun q => hc ((nI_leI (by omega) (by omega)).mpr q)))
            rw [Nat.max_eq_right hle] at back
            refine r_iload (zdk oM_over 45 rfl) rfl ?_
            refine r_goto (tgt := 87) (zdk oM_over 46 rfl) (by decide) ?_
            exact back
        · rw [if_neg hcan]
          exact err (by simp only [pE]; rw [show fCan (h.1 28 p) vars (!msg) = false by simpa using hcan, Bool.and_false]; rfl) none
  refine zmet (by decide +kernel) (Nat.le_of_ble_eq_true rfl) ?_
  refine r_iconst (v := 1) (zdk oM_over 0 rfl) (by decide) ?_
  refine r_istore (zdk oM_over 1 rfl) (Nat.le_of_ble_eq_true rfl) rfl ?_
  refine r_iconst (v := 1) (zdk oM_over 2 rfl) (by decide) ?_
  refine r_istore (zdk oM_over 3 rfl) (Nat.le_of_ble_eq_true rfl) rfl ?_
  refine r_iload_n (zdk oM_over 4 rfl) rfl rfl ?_
  refine r_istore (zdk oM_over 5 rfl) (Nat.le_of_ble_eq_true rfl) rfl ?_
  refine r_aload_n (zdk oM_over 6 rfl) rfl rfl ?_
  refine r_getr (kf := 20) (zdk oM_over 7 rfl) rfl rfl (by decide) lF_M_40 rfl ?_
  refine r_iconst (v := 1) (zdk oM_over 8 rfl) (by decide) ?_
  refine r_iconst (v := 1) (zdk oM_over 9 rfl) (by decide) ?_
  refine r_iast (zdk oM_over 10 rfl) rfl (vp_in_nI (n := 1) (by decide) (by decide)) ?_
  refine r_aload_n (zdk oM_over 11 rfl) rfl rfl ?_
  refine r_getr (kf := 4) (zdk oM_over 12 rfl) rfl rfl (by decide) lF_M_13 rfl ?_
  refine r_iload_n (zdk oM_over 13 rfl) rfl rfl ?_
  refine r_iload_n (zdk oM_over 14 rfl) rfl rfl ?_
  refine r_iast (zdk oM_over 15 rfl) rfl (vp_in_nI hsl (by decide)) ?_
  rw [esl]
  refine cons 12 (by decide) p0 1 1 _ hp0 (by decide) (by decide) (by decide) (by decide) ?_ ?_ rfl ?_ ?_ ?_
  · rw [zp1, if_neg (by omega), zp1]
    rfl
  · intro a j c1 c2
    rw [zp1, if_neg c2, zp1, if_neg (fun z => c1 z.1)]
  · rw [zp1, if_pos ⟨rfl, rfl⟩]
  · intro e hE H' o' l'
    refine hK _ _ ?_
    rw [hE]
    exact ⟨rfl, o', l'⟩
  · intro q dq hE H' a1 _ a3 a4
    have hge := pE_ge 12 p0 q dq hE
    have hdq := pE_deep 12 p0 q dq hE (by decide)
    obtain ⟨-, w2, -⟩ := pE_words 12 p0 q dq hE
    refine r_iload (zdk oM_over 66 rfl) rfl ?_
    refine r_if_le (tgt := 141) (zdk oM_over 67 rfl) (by decide) (fun q9 => absurd q9 ((show ¬ nI (13 - 12) ≤ 0 by decide))) (fun _ => ?_)
    refine r_aload_n (zdk oM_over 68 rfl) rfl rfl ?_
    refine r_getr (kf := 20) (zdk oM_over 69 rfl) rfl rfl (by decide) lF_M_40 rfl ?_
    refine r_iload (zdk oM_over 70 rfl) rfl ?_
    refine r_iald (zdk oM_over 71 rfl) rfl (vp_in_nI (n := 13 - 12) (by decide) (by decide)) ?_
    rw [show H'.1 38 (nI (13 - 12)).toNatClampNeg = 0 from a1]
    refine r_if_ne (tgt := 141) (zdk oM_over 72 rfl) (by decide) (fun q9 => absurd ((rfl : (0 : Int32) = 0)) q9) (fun _ => ?_)
    refine r_iinc (v := 0) (zdk oM_over 73 rfl) rfl (by decide) rfl ?_
    refine r_goto (tgt := 120) (zdk oM_over 74 rfl) (by decide) ?_
    refine r_iload (zdk oM_over 66 rfl) rfl ?_
    refine r_if_le (tgt := 141) (zdk oM_over 67 rfl) (by decide) (fun _ => ?_) (fun q9 => absurd ((show (0 : Int32) ≤ 0 by decide)) q9)
    refine r_goto (tgt := 23) (zdk oM_over 75 rfl) (by decide) ?_
    refine r_iload (zdk oM_over 16 rfl) rfl ?_
    refine r_if_le (tgt := 144) (zdk oM_over 17 rfl) (by decide) (fun _ => ?_) (fun q9 => absurd ((show (0 : Int32) ≤ 0 by decide)) q9)
    rw [Nat.max_eq_right (show 1 ≤ dq by omega)]
    refine r_aload_n (zdk oM_over 76 rfl) rfl rfl ?_
    refine r_getr (kf := 5) (zdk oM_over 77 rfl) rfl rfl (by decide) lF_M_16 rfl ?_
    refine r_iload_n (zdk oM_over 78 rfl) rfl rfl ?_
    refine r_iload (zdk oM_over 79 rfl) rfl ?_
    refine r_iast (zdk oM_over 80 rfl) rfl (vp_in_nI hsl (by decide)) ?_
    refine r_aload_n (zdk oM_over 81 rfl) rfl rfl ?_
    refine r_getr (kf := 6) (zdk oM_over 82 rfl) rfl rfl (by decide) lF_M_19 rfl ?_
    refine r_iload_n (zdk oM_over 83 rfl) rfl rfl ?_
    refine r_iload (zdk oM_over 84 rfl) rfl ?_
    refine r_iast (zdk oM_over 85 rfl) rfl (vp_in_nI hsl (by decide)) ?_
    refine r_iload (zdk oM_over 86 rfl) rfl ?_
    refine r_iret (zdk oM_over 87 rfl) rfl ?_
    rw [esl]
    refine hK _ _ ?_
    rw [hE]
    refine ⟨rfl, ?_, ?_, ?_, ?_, ?_⟩
    · rw [zp1, if_neg (by omega), zp1, if_neg (by omega), a3 29 slot (by decide), zp1, if_pos ⟨rfl, rfl⟩]
    · rw [zp1, if_neg (by omega), zp1, if_pos ⟨rfl, rfl⟩]
    · rw [zp1, if_pos ⟨rfl, rfl⟩]
    · intro a j c1 c2 c3 c4
      rw [zp1, if_neg c4, zp1, if_neg c3, a3 a j c1, zp1, if_neg c2, zp1, if_neg (fun z => c1 z.1)]
    · rw [zp2, zp2]; exact a4
