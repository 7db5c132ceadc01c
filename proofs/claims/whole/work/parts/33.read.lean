/-! reading a program's head and its expressions -/
def fHv (W : Nat → Int32) (n : Nat) : Nat → Nat → Int32
  | 0, _ => -1
  | k + 1, v => if fIn W n (2 + v) 0 15 = true then fHv W n k (v + 1) else nI (2 + v)
/-- the first error of the head, or -1 -/
def fHe (W : Nat → Int32) (n : Nat) : Int32 := if fIn W n 0 1 4 = true then (if fIn W n 1 2 5 = true then fHv W n (W 1).toNatClampNeg 0 else 1) else 0
theorem fIn_nat {W : Nat → Int32} {n p l g : Nat} (hg : g < 2 ^ 31) (hl : l ≤ g) (h : fIn W n p (nI l) (nI g) = true) : p < n ∧ ∃ k, l ≤ k ∧ k ≤ g ∧ W p = nI k := by
  simp only [fIn, decide_eq_true_eq] at h
  obtain ⟨h1, h2, h3⟩ := h
  refine ⟨h1, (W p).toNatClampNeg, ?_⟩
  have e1 := nI_toInt (n := l) (by omega)
  have e2 := nI_toInt (n := g) hg
  rw [Int32.lt_iff_toInt_lt, e1] at h2
  rw [Int32.lt_iff_toInt_lt, e2] at h3
  have e3 : (W p).toNatClampNeg = (W p).toInt.toNat := rfl
  refine ⟨by rw [e3]; omega, by rw [e3]; omega, ?_⟩
  apply Int32.toInt_inj.mp
  rw [nI_toInt (by rw [e3]; omega), e3]
  omega
def zHd (h : zH) (ph vs : Nat) (er : Int32) : zH := zput (zput (zput h 1 5 (nI ph)) 1 6 (nI vs)) 1 7 er
theorem spP_readHead (d : Nat) (h : zH) (n : Nat) (hs : h.1 1 3 = nI n) (hn : n ≤ 400) (he : h.1 1 7 = -1) : zSP (d + 1) 0 0 mP_readHead [.inr (.inr 1)] h
    (fun r h' => ∃ ph vs, r = .inl (some (.inl (nI (2 + vs)))) ∧ h' = zHd h ph vs (fHe (h.1 2) n) ∧ 1 ≤ ph ∧ ph ≤ 4 ∧ 2 ≤ vs ∧ vs ≤ 5 ∧ (fHe (h.1 2) n = -1 → h.1 2 0 = nI ph ∧ h.1 2 1 = nI vs)) := by
  have loop : ∀ (ph vs : Nat), 2 ≤ vs → vs ≤ 5 → 1 ≤ ph → ph ≤ 4 → ∀ k v er, v + k = vs → (if er = -1 then fHv (h.1 2) n k v else er) = fHe (h.1 2) n → (fHe (h.1 2) n = -1 → h.1 2 0 = nI ph ∧ h.1 2 1 = nI vs) → zMC false (d + 1) 0 0 0 0 mP_readHead (fun r h' => ∃ ph vs, r = .inl (some (.inl (nI (2 + vs)))) ∧ h' = zHd h ph vs (fHe (h.1 2) n) ∧ 1 ≤ ph ∧ ph ≤ 4 ∧ 2 ≤ vs ∧ vs ≤ 5 ∧ (fHe (h.1 2) n = -1 → h.1 2 0 = nI ph ∧ h.1 2 1 = nI vs)) 24 [some (.inr (.inr 1)), some (.inl (nI v))] [] (zHd h ph vs er) := by
    intro ph vs h2 h5 h1 h4 k
    induction k with
    | zero =>
      intro v er hv hE hW
      have ev : (zHd h ph vs er).1 1 6 = nI vs := by simp [zHd, zp1]
      refine r_iload_n (zdk oP_readHead 16 rfl) rfl rfl ?_
      refine r_aload_n (zdk oP_readHead 17 rfl) rfl rfl ?_
      refine r_geti (kf := 6) (zdk oP_readHead 18 rfl) rfl rfl (by decide) lF_P_32 rfl ?_
      rw [ev]
      refine r_icmp_ge (tgt := 49) (zdk oP_readHead 19 rfl) (by decide) (fun _ => ?_) (fun q9 => absurd ((show nI vs ≤ nI v by rw [show v = vs by omega]; exact Int32.le_refl _)) q9)
      refine r_iconst (v := 2) (zdk oP_readHead 30 rfl) (by decide) ?_
      refine r_aload_n (zdk oP_readHead 31 rfl) rfl rfl ?_
      refine r_geti (kf := 6) (zdk oP_readHead 32 rfl) rfl rfl (by decide) lF_P_32 rfl ?_
      rw [ev]
      refine r_iadd (zdk oP_readHead 33 rfl) ?_
      refine r_iret (zdk oP_readHead 34 rfl) rfl ?_
      refine ⟨ph, vs, by rw [show (2 : Int32) + nI vs = nI (2 + vs) from nI_add 2 vs], ?_, h1, h4, h2, h5, hW⟩
      have : er = fHe (h.1 2) n := by
        simp only [fHv] at hE
        split at hE
        · rename_i q; rw [q, hE]
        · exact hE
      rw [this]
    | succ k ih =>
      intro v er hv hE hW
      have ev : (zHd h ph vs er).1 1 6 = nI vs := by simp [zHd, zp1]
      have e3 : (zHd h ph vs er).1 1 3 = nI n := by simp [zHd, zp1, hs]
      have e2 : (zHd h ph vs er).1 2 = h.1 2 := by funext j; simp [zHd, zp1]
      have e7 : (zHd h ph vs er).1 1 7 = er := by simp [zHd, zp1]
      refine r_iload_n (zdk oP_readHead 16 rfl) rfl rfl ?_
      refine r_aload_n (zdk oP_readHead 17 rfl) rfl rfl ?_
      refine r_geti (kf := 6) (zdk oP_readHead 18 rfl) rfl rfl (by decide) lF_P_32 rfl ?_
      rw [ev]
      refine r_icmp_ge (tgt := 49) (zdk oP_readHead 19 rfl) (by decide) (fun q9 => absurd q9 ((nI_ge (a := v) (b := vs) (by omega) (by omega)))) (fun _ => ?_)
      refine r_aload_n (zdk oP_readHead 20 rfl) rfl rfl ?_
      refine r_iconst (v := 2) (zdk oP_readHead 21 rfl) (by decide) ?_
      refine r_iload_n (zdk oP_readHead 22 rfl) rfl rfl ?_
      refine r_iadd (zdk oP_readHead 23 rfl) ?_
      refine r_tp (nI_add 2 v) ?_
      refine r_iconst (v := 0) (zdk oP_readHead 24 rfl) (by decide) ?_
      refine r_bipush (v := 15) (zdk oP_readHead 25 rfl) (by decide) ?_
      refine r_callV3i (M' := mP_readNumber) (zdk oP_readHead 26 rfl) lM_P_55 vP_readNumber rfl rfl (Nat.le_of_ble_eq_true rfl) rfl (spP_readNumber d _ n (2 + v) 0 15 e3 hn (by omega)) ?_
      refine r_pop (zdk oP_readHead 27 rfl) rfl ?_
      first | refine r_iinc (zdk oP_readHead 28 rfl) rfl (zinc _) rfl ?_ | refine r_iinc (zdk oP_readHead 28 rfl) rfl rfl rfl ?_
      refine r_goto (tgt := 24) (zdk oP_readHead 29 rfl) (by decide) ?_
      have eh : fRNh (zHd h ph vs er) n (2 + v) 0 15 = zHd h ph vs (if er = -1 then (if fIn (h.1 2) n (2 + v) 0 15 = true then -1 else nI (2 + v)) else er) := by
        unfold fRNh
        rw [e7, e2]
        by_cases q1 : er = -1
        · by_cases q2 : fIn (h.1 2) n (2 + v) 0 15 = true
          · rw [if_neg (by simp [q2]), if_pos q1, if_pos q2, q1]
          · rw [if_pos ⟨q1, by simpa using q2⟩, if_pos q1, if_neg q2]
            unfold zHd
            rw [zput_zput]
        · rw [if_neg (fun q => q1 q.1), if_neg q1]
      rw [eh]
      refine ih (v + 1) _ (by omega) ?_ hW
      rw [← hE]
      by_cases q1 : er = -1
      · by_cases q2 : fIn (h.1 2) n (2 + v) 0 15 = true
        · simp [q1, q2, fHv]
        · have q3 : ¬ nI (2 + v) = -1 := by
            intro q
            have := congrArg Int32.toInt q
            rw [nI_toInt (by omega)] at this
            simp at this
            omega
          simp [q1, q2, q3, fHv]
      · simp [q1]
  refine zmet (by decide +kernel) (Nat.le_of_ble_eq_true rfl) ?_
  refine r_aload_n (zdk oP_readHead 0 rfl) rfl rfl ?_
  refine r_aload_n (zdk oP_readHead 1 rfl) rfl rfl ?_
  refine r_iconst (v := 0) (zdk oP_readHead 2 rfl) (by decide) ?_
  refine r_iconst (v := 1) (zdk oP_readHead 3 rfl) (by decide) ?_
  refine r_iconst (v := 4) (zdk oP_readHead 4 rfl) (by decide) ?_
  refine r_callV3i (M' := mP_readNumber) (zdk oP_readHead 5 rfl) lM_P_55 vP_readNumber rfl rfl (Nat.le_of_ble_eq_true rfl) rfl (spP_readNumber d h n 0 1 4 hs hn (by decide)) ?_
  refine r_puti (kf := 5) (zdk oP_readHead 6 rfl) rfl rfl (by decide) lF_P_29 rfl rfl (by decide +kernel) (Or.inl rfl) ?_
  refine r_aload_n (zdk oP_readHead 7 rfl) rfl rfl ?_
  refine r_aload_n (zdk oP_readHead 8 rfl) rfl rfl ?_
  refine r_iconst (v := 1) (zdk oP_readHead 9 rfl) (by decide) ?_
  refine r_iconst (v := 2) (zdk oP_readHead 10 rfl) (by decide) ?_
  refine r_iconst (v := 5) (zdk oP_readHead 11 rfl) (by decide) ?_
  have e0 : (zput (fRNh h n 0 1 4) 1 5 (fRNv h n 0 1 4)).1 1 3 = nI n := by
    unfold fRNh
    split <;> simp [zp1, hs]
  have e02 : ∀ x, (zput (fRNh h n 0 1 4) 1 5 x).1 2 = h.1 2 := by
    intro x
    funext j
    unfold fRNh
    split <;> simp [zp1]
  refine r_callV3i (M' := mP_readNumber) (zdk oP_readHead 12 rfl) lM_P_55 vP_readNumber rfl rfl (Nat.le_of_ble_eq_true rfl) rfl (spP_readNumber d _ n 1 2 5 e0 hn (by decide)) ?_
  refine r_puti (kf := 6) (zdk oP_readHead 13 rfl) rfl rfl (by decide) lF_P_32 rfl rfl (by decide +kernel) (Or.inl rfl) ?_
  refine r_iconst (v := 0) (zdk oP_readHead 14 rfl) (by decide) ?_
  refine r_istore_n (zdk oP_readHead 15 rfl) rfl (Nat.le_of_ble_eq_true rfl) rfl ?_
  by_cases c0 : fIn (h.1 2) n 0 1 4 = true
  · obtain ⟨-, ph, p1, p2, p3⟩ := fIn_nat (l := 1) (g := 4) (by decide) (by decide) c0
    have a1 : fRNh h n 0 1 4 = h := by unfold fRNh; rw [if_neg (by simp [c0])]
    have a2 : fRNv h n 0 1 4 = nI ph := by unfold fRNv; rw [if_pos ⟨he, c0⟩, p3]
    rw [a1, a2]
    have b7 : (zput h 1 5 (nI ph)).1 1 7 = -1 := by simp [zp1, he]
    have b2 : (zput h 1 5 (nI ph)).1 2 = h.1 2 := by funext j; simp [zp1]
    by_cases c1 : fIn (h.1 2) n 1 2 5 = true
    · obtain ⟨-, vs, v1, v2, v3⟩ := fIn_nat (l := 2) (g := 5) (by decide) (by decide) c1
      have a3 : fRNh (zput h 1 5 (nI ph)) n 1 2 5 = zput h 1 5 (nI ph) := by unfold fRNh; rw [b2, if_neg (by simp [c1])]
      have a4 : fRNv (zput h 1 5 (nI ph)) n 1 2 5 = nI vs := by unfold fRNv; rw [b2, if_pos ⟨b7, c1⟩, v3]
      rw [a3, a4]
      have eH : zput (zput h 1 5 (nI ph)) 1 6 (nI vs) = zHd h ph vs (-1) := (zput_same (by simp [zp1, he])).symm
      rw [eH]
      have ev : (h.1 2 1).toNatClampNeg = vs := by rw [v3]; exact nI_clamp (by omega)
      exact loop ph vs v1 v2 p1 p2 vs 0 (-1) (by omega) (by simp [fHe, c0, c1, ev]) (fun _ => ⟨p3, v3⟩)
    · have a3 : fRNh (zput h 1 5 (nI ph)) n 1 2 5 = zput (zput h 1 5 (nI ph)) 1 7 (nI 1) := by unfold fRNh; rw [b2, if_pos ⟨b7, by simpa using c1⟩]
      have a4 : fRNv (zput h 1 5 (nI ph)) n 1 2 5 = nI 2 := by unfold fRNv; rw [b2, if_neg (fun q => c1 q.2)]; rfl
      rw [a3, a4]
      have eH : zput (zput (zput h 1 5 (nI ph)) 1 7 (nI 1)) 1 6 (nI 2) = zHd h ph 2 (nI 1) := zput_comm (Or.inr (by decide))
      rw [eH]
      exact loop ph 2 (by decide) (by decide) p1 p2 2 0 (nI 1) (by omega) (by simp [fHe, c0, c1, nI]) (fun q => by simp [fHe, c0, c1] at q)
  · have a1 : fRNh h n 0 1 4 = zput h 1 7 (nI 0) := by unfold fRNh; rw [if_pos ⟨he, by simpa using c0⟩]
    have a2 : fRNv h n 0 1 4 = nI 1 := by unfold fRNv; rw [if_neg (fun q => c0 q.2)]; rfl
    rw [a1, a2]
    have b7 : (zput (zput h 1 7 (nI 0)) 1 5 (nI 1)).1 1 7 = nI 0 := by simp [zp1]
    have c7 : ¬ nI 0 = -1 := by decide
    have a3 : fRNh (zput (zput h 1 7 (nI 0)) 1 5 (nI 1)) n 1 2 5 = zput (zput h 1 7 (nI 0)) 1 5 (nI 1) := by unfold fRNh; rw [if_neg (fun q => c7 (b7.symm.trans q.1))]
    have a4 : fRNv (zput (zput h 1 7 (nI 0)) 1 5 (nI 1)) n 1 2 5 = nI 2 := by unfold fRNv; rw [if_neg (fun q => c7 (b7.symm.trans q.1))]; rfl
    rw [a3, a4]
    have eH : zput (zput (zput h 1 7 (nI 0)) 1 5 (nI 1)) 1 6 (nI 2) = zHd h 1 2 (nI 0) := by
      unfold zHd
      rw [zput_comm (q := 1) (k := 7) (q' := 1) (k' := 5) (Or.inr (by decide)), zput_comm (q := 1) (k := 7) (q' := 1) (k' := 6) (Or.inr (by decide))]
    rw [eH]
    exact loop 1 2 (by decide) (by decide) (by decide) (by decide) 2 0 (nI 0) (by omega) (by simp [fHe, c0, nI]) (fun q => by simp [fHe, c0] at q)
