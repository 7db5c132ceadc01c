/-- what a checked program has, as the reference keeps it -/
def zMck (h : zH) (n ph vars : Nat) : Prop := h.1 27 7 = nI ph ∧ h.1 27 8 = nI vars ∧ 1 ≤ ph ∧ ph ≤ 4 ∧ 2 ≤ vars ∧ vars ≤ 5 ∧ ∀ f pt, f < ph → pt ≤ vars → ∃ p q dd, qP (h.1 28) n vars (f * (vars + 1) + pt) p q dd ∧ h.1 29 (6 * f + pt) = nI p ∧ h.1 30 (6 * f + pt) = nI q ∧ h.1 31 (6 * f + pt) = nI dd
def zMFE (h : zH) (n : Nat) : zR → zH → Prop := fun r h' =>
  r = .inl (some (.inl (fErr (h.1 28) n + 1))) ∧ (∀ a j, ¬ (a = 27 ∧ (j = 7 ∨ j = 8)) → a ≠ 29 → a ≠ 30 → a ≠ 31 → a ≠ 38 → h'.1 a j = h.1 a j) ∧ h'.2 = h.2 ∧
    (fErr (h.1 28) n = -1 → ∃ ph vars, h.1 28 0 = nI ph ∧ h.1 28 1 = nI vars ∧ zMck h' n ph vars)
theorem fIn_wi {W : Nat → Int32} {n p : Nat} {l g : Int32} (hp : p < n) : fBo (decide (¬ W p < l ∧ ¬ g < W p)) = 0 ↔ fIn W n p l g = false := by
  rw [fBo_0]
  simp [fIn, hp]
theorem nI_m1s (x : Nat) : (-1 : Int32) - (-1 - nI x) + 1 = nI x + 1 := by
  generalize nI x = a
  grind
theorem nI_mneg {x : Nat} (hx : x < 2 ^ 29) : ¬ (0 : Int32) ≤ -1 - nI x := by
  have e : (-1 : Int32) - nI x = nI 0 - nI (x + 1) := by
    rw [nI_succ, nI_0]
    generalize nI x = a
    grind
  rw [e]
  exact Int32.not_le.mpr (pk_sneg (by omega) (by omega))
def fEnd (n : Nat) (o : Nat ⊕ Nat) : Int32 := match o with
  | .inl x => nI x
  | .inr p => if p < n then nI p else -1
theorem fErr_ok {W : Nat → Int32} {n : Nat} (hh : fHe W n = -1) : fErr W n = fEnd n (qE W n (W 1).toNatClampNeg ((W 0).toNatClampNeg * ((W 1).toNatClampNeg + 1))) := by
  unfold fErr
  rw [if_pos hh]
  generalize qE W n (W 1).toNatClampNeg ((W 0).toNatClampNeg * ((W 1).toNatClampNeg + 1)) = o
  cases o <;> rfl
theorem spM_error (d : Nat) (h : zH) (n : Nat) (hmany : h.1 27 1 = nI n) (hn : n ≤ 400) : zSP (d + 3) 0 0 mM_error [.inr (.inr 27)] h (zMFE h n) := by
  suffices main : ∀ K : zR → zH → Prop, (∀ r h', zMFE h n r h' → K r h') → zSP (d + 3) 0 0 mM_error [.inr (.inr 27)] h K from main _ (fun _ _ q => q)
  intro K hK
  have e0n : h.1 27 1 = 0 ↔ n = 0 := by rw [hmany]; exact nI_eq (b := 0) (by omega) (by decide)
  have e1n : h.1 27 1 = 1 ↔ n = 1 := by rw [hmany]; exact nI_eq (b := 1) (by omega) (by decide)
  have fin : ∀ x : Nat, x ≤ 1000 → fErr (h.1 28) n = nI x → K (.inl (some (.inl (nI x + 1)))) h := fun x hx hF => hK _ _ ⟨by rw [hF], fun _ _ _ _ _ _ _ => rfl, rfl, fun q => absurd (hF.symm.trans q) (nI_nm1 (by omega))⟩
  have fin0 : fIn (h.1 28) n 0 1 4 = false → zMC false (d + 3) 0 0 0 0 mM_error K 21 [some (.inr (.inr 27)), none, none, none] [] h := fun q => by
    have hF : fErr (h.1 28) n = nI 0 := by
      have : fHe (h.1 28) n = 0 := by unfold fHe; rw [if_neg (by rw [q]; decide)]
      unfold fErr
      rw [this]
      rfl
    refine r_iconst (v := 1) (zdk oM_error 11 rfl) (by decide) ?_
    refine r_iret (zdk oM_error 12 rfl) rfl ?_
    exact fin 0 (by decide) hF
  have fin1 : fIn (h.1 28) n 0 1 4 = true → fIn (h.1 28) n 1 2 5 = false → zMC false (d + 3) 0 0 0 0 mM_error K 45 [some (.inr (.inr 27)), none, none, none] [] h := fun q0 q => by
    have hF : fErr (h.1 28) n = nI 1 := by
      have : fHe (h.1 28) n = 1 := by unfold fHe; rw [if_pos q0, if_neg (by rw [q]; decide)]
      unfold fErr
      rw [this]
      rfl
    refine r_iconst (v := 2) (zdk oM_error 25 rfl) (by decide) ?_
    refine r_iret (zdk oM_error 26 rfl) rfl ?_
    exact fin 1 (by decide) hF
  have go : fIn (h.1 28) n 0 1 4 = true → fIn (h.1 28) n 1 2 5 = true → zMC false (d + 3) 0 0 0 0 mM_error K 47 [some (.inr (.inr 27)), none, none, none] [] h := fun c0 c1 => by
    obtain ⟨hn0, ph, p1, p4, w0⟩ := fIn_nat (l := 1) (g := 4) (by decide) (by decide) c0
    obtain ⟨hn1, vs, v2, v5, w1⟩ := fIn_nat (l := 2) (g := 5) (by decide) (by decide) c1
    have ew0 : (h.1 28 0).toNatClampNeg = ph := by rw [w0]; exact nI_clamp (by omega)
    have ew1 : (h.1 28 1).toNatClampNeg = vs := by rw [w1]; exact nI_clamp (by omega)
    have eHe : fHe (h.1 28) n = fHv (h.1 28) n vs 0 := by unfold fHe; rw [if_pos c0, if_pos c1, ew1]
    have hE24 : ph * (vs + 1) ≤ 24 := Nat.le_trans (Nat.mul_le_mul p4 (show vs + 1 ≤ 6 by omega)) (by decide)
    refine r_aload_n (zdk oM_error 27 rfl) rfl rfl ?_
    refine r_aload_n (zdk oM_error 28 rfl) rfl rfl ?_
    refine r_getr (kf := 2) (zdk oM_error 29 rfl) rfl rfl (by decide) lF_M_7 rfl ?_
    refine r_iconst (v := 0) (zdk oM_error 30 rfl) (by decide) ?_
    refine r_iald (zdk oM_error 31 rfl) rfl (vp_in_nI (n := 0) (by decide) (by decide)) ?_
    rw [show h.1 28 (0 : Int32).toNatClampNeg = nI ph from w0]
    refine r_puti (kf := 7) (zdk oM_error 32 rfl) rfl rfl (by decide) lF_M_120 rfl rfl (by decide +kernel) (Or.inl rfl) ?_
    refine r_aload_n (zdk oM_error 33 rfl) rfl rfl ?_
    refine r_aload_n (zdk oM_error 34 rfl) rfl rfl ?_
    refine r_getr (kf := 2) (zdk oM_error 35 rfl) rfl rfl (by decide) lF_M_7 rfl ?_
    refine r_iconst (v := 1) (zdk oM_error 36 rfl) (by decide) ?_
    refine r_iald (zdk oM_error 37 rfl) rfl (vp_in_nI (n := 1) (by decide) (by decide)) ?_
    rw [show (zput h 27 7 (nI ph)).1 28 (1 : Int32).toNatClampNeg = nI vs by rw [show (1 : Int32).toNatClampNeg = 1 from rfl, zp1, if_neg (by omega), w1]]
    refine r_puti (kf := 8) (zdk oM_error 38 rfl) rfl rfl (by decide) lF_M_113 rfl rfl (by decide +kernel) (Or.inl rfl) ?_
    refine r_iconst (v := 2) (zdk oM_error 39 rfl) (by decide) ?_
    refine r_istore_n (zdk oM_error 40 rfl) rfl (Nat.le_of_ble_eq_true rfl) rfl ?_
    refine r_iconst (v := 0) (zdk oM_error 41 rfl) (by decide) ?_
    refine r_istore_n (zdk oM_error 42 rfl) rfl (Nat.le_of_ble_eq_true rfl) rfl ?_
    have hH : ∃ x, x = zput (zput h 27 7 (nI ph)) 27 8 (nI vs) := ⟨_, rfl⟩
    obtain ⟨H0, hH0⟩ := hH
    rw [← hH0]
    have o0 : ∀ a j, ¬ (a = 27 ∧ (j = 7 ∨ j = 8)) → H0.1 a j = h.1 a j := fun a j c => by rw [hH0, zp1, if_neg (by omega), zp1, if_neg (by omega)]
    have l0 : H0.2 = h.2 := by rw [hH0]; rfl
    have p7 : H0.1 27 7 = nI ph := by rw [hH0, zp1, if_neg (by omega), zp1, if_pos ⟨rfl, rfl⟩]
    have p8 : H0.1 27 8 = nI vs := by rw [hH0, zp1, if_pos ⟨rfl, rfl⟩]
    have m1 : H0.1 27 1 = nI n := by rw [o0 27 1 (by omega), hmany]
    have m28 : H0.1 28 = h.1 28 := funext (fun j => o0 28 j (by omega))
    clear hH0
    have finH : ∀ (x : Nat) (H : zH), x ≤ 1000 → fErr (h.1 28) n = nI x → (∀ a j, ¬ (a = 27 ∧ (j = 7 ∨ j = 8)) → a ≠ 29 → a ≠ 30 → a ≠ 31 → a ≠ 38 → H.1 a j = h.1 a j) → H.2 = h.2 → K (.inl (some (.inl (nI x + 1)))) H := fun x H hx hF ho hl => hK _ _ ⟨by rw [hF], ho, hl, fun q => absurd (hF.symm.trans q) (nI_nm1 (by omega))⟩
    -- behind the ranges: the expressions
    have exprs : fHe (h.1 28) n = -1 → zMC false (d + 3) 0 0 0 0 mM_error K 115 [some (.inr (.inr 27)), some (.inl (nI (2 + vs))), some (.inl (nI vs)), none] [] H0 := fun hh => by
      have eErr : fErr (h.1 28) n = fEnd n (qE (h.1 28) n vs (ph * (vs + 1))) := by
        rw [fErr_ok hh, ew0, ew1]
      have outer : ∀ (k f p : Nat) (H : zH), f + k = ph → qE (h.1 28) n vs (f * (vs + 1)) = .inr p → (∀ a j, a ≠ 29 → a ≠ 30 → a ≠ 31 → a ≠ 38 → H.1 a j = H0.1 a j) → H.2 = h.2 →
          (∀ f' pt, f' < f → pt ≤ vs → ∃ p q dd, qP (h.1 28) n vs (f' * (vs + 1) + pt) p q dd ∧ H.1 29 (6 * f' + pt) = nI p ∧ H.1 30 (6 * f' + pt) = nI q ∧ H.1 31 (6 * f' + pt) = nI dd) →
          zMC false (d + 3) 0 0 0 0 mM_error K 117 [some (.inr (.inr 27)), some (.inl (nI p)), some (.inl (nI f)), none] [] H := by
        intro k
        induction k with
        | zero =>
          intro f p H hf hq ho hl hx
          have ef : f = ph := by omega
          subst ef
          have g7 : H.1 27 7 = nI f := by rw [ho 27 7 (by decide) (by decide) (by decide) (by decide), p7]
          have g1 : H.1 27 1 = nI n := by rw [ho 27 1 (by decide) (by decide) (by decide) (by decide), m1]
          have hp4 := qE_le v5 hn _ p hq
          rw [hq] at eErr
          have ho' : ∀ a j, ¬ (a = 27 ∧ (j = 7 ∨ j = 8)) → a ≠ 29 → a ≠ 30 → a ≠ 31 → a ≠ 38 → H.1 a j = h.1 a j := fun a j c1 c2 c3 c4 c5 => by rw [ho a j c2 c3 c4 c5, o0 a j c1]
          refine r_iload_n (zdk oM_error 68 rfl) rfl rfl ?_
          refine r_aload_n (zdk oM_error 69 rfl) rfl rfl ?_
          refine r_geti (kf := 7) (zdk oM_error 70 rfl) rfl rfl (by decide) lF_M_120 rfl ?_
          rw [g7]
          refine r_icmp_ge (tgt := 180) (zdk oM_error 71 rfl) (by decide) (fun _ => ?_) (fun q9 => absurd ((Int32.le_refl (nI f))) q9)
          refine r_iload_n (zdk oM_error 106 rfl) rfl rfl ?_
          refine r_aload_n (zdk oM_error 107 rfl) rfl rfl ?_
          refine r_geti (kf := 1) (zdk oM_error 108 rfl) rfl rfl (by decide) lF_M_82 rfl ?_
          rw [g1]
          refine r_icmp_ge (tgt := 194) (zdk oM_error 109 rfl) (by decide) (fun hc => ?_) (fun hc => ?_)
          · have hpn : n ≤ p := (nI_leI (by omega) (by omega)).mp hc
            have hF : fErr (h.1 28) n = -1 := by rw [eErr]; simp only [fEnd]; rw [if_neg (by omega)]
            refine r_iconst (v := 0) (zdk oM_error 114 rfl) (by decide) ?_
            refine r_iret (zdk oM_error 115 rfl) rfl ?_
            refine hK _ _ ⟨by rw [hF]; rfl, ho', hl, fun _ => ⟨f, vs, w0, w1, g7, by rw [ho 27 8 (by decide) (by decide) (by decide) (by decide), p8], p1, p4, v2, v5, fun f' pt hf' hpt => ?_⟩⟩
            rw [show H.1 28 = h.1 28 from funext (fun j => by rw [ho 28 j (by decide) (by decide) (by decide) (by decide), m28])]
            exact hx f' pt hf' hpt
          · have hpn : p < n := Nat.not_le.mp (fun q => hc ((nI_leI (by omega) (by omega)).mpr q))
            have hF : fErr (h.1 28) n = nI p := by rw [eErr]; simp only [fEnd]; rw [if_pos hpn]
            refine r_iload_n (zdk oM_error 110 rfl) rfl rfl ?_
            refine r_iconst (v := 1) (zdk oM_error 111 rfl) (by decide) ?_
            refine r_iadd (zdk oM_error 112 rfl) ?_
            refine r_goto (tgt := 195) (zdk oM_error 113 rfl) (by decide) ?_
            refine r_iret (zdk oM_error 115 rfl) rfl ?_
            exact finH p H (by omega) hF ho' hl
        | succ k ih =>
          intro f p H hf hq ho hl hx
          have g7 : H.1 27 7 = nI ph := by rw [ho 27 7 (by decide) (by decide) (by decide) (by decide), p7]
          refine r_iload_n (zdk oM_error 68 rfl) rfl rfl ?_
          refine r_aload_n (zdk oM_error 69 rfl) rfl rfl ?_
          refine r_geti (kf := 7) (zdk oM_error 70 rfl) rfl rfl (by decide) lF_M_120 rfl ?_
          rw [g7]
          refine r_icmp_ge (tgt := 180) (zdk oM_error 71 rfl) (by decide) (fun q9 => absurd q9 ((nI_ge (a := f) (b := ph) (by omega) (by omega)))) (fun _ => ?_)
          refine r_iconst (v := -1) (zdk oM_error 72 rfl) (by decide) ?_
          refine r_istore_n (zdk oM_error 73 rfl) rfl (Nat.le_of_ble_eq_true rfl) rfl ?_
          have inner : ∀ (k2 pt p : Nat) (H : zH), pt + k2 = vs + 1 → qE (h.1 28) n vs (f * (vs + 1) + pt) = .inr p → (∀ a j, a ≠ 29 → a ≠ 30 → a ≠ 31 → a ≠ 38 → H.1 a j = H0.1 a j) → H.2 = h.2 →
              (∀ f' pt, f' < f → pt ≤ vs → ∃ p q dd, qP (h.1 28) n vs (f' * (vs + 1) + pt) p q dd ∧ H.1 29 (6 * f' + pt) = nI p ∧ H.1 30 (6 * f' + pt) = nI q ∧ H.1 31 (6 * f' + pt) = nI dd) →
              (∀ pt', pt' < pt → ∃ p q dd, qP (h.1 28) n vs (f * (vs + 1) + pt') p q dd ∧ H.1 29 (6 * f + pt') = nI p ∧ H.1 30 (6 * f + pt') = nI q ∧ H.1 31 (6 * f + pt') = nI dd) →
              zMC false (d + 3) 0 0 0 0 mM_error K 127 [some (.inr (.inr 27)), some (.inl (nI p)), some (.inl (nI f)), some (.inl (nI pt - 1))] [] H := by
            intro k2
            induction k2 with
            | zero =>
              intro pt p H hpt hq ho hl hx hy
              have ept : pt = vs + 1 := by omega
              subst ept
              have g8 : H.1 27 8 = nI vs := by rw [ho 27 8 (by decide) (by decide) (by decide) (by decide), p8]
              refine r_iload_n (zdk oM_error 74 rfl) rfl rfl ?_
              refine r_aload_n (zdk oM_error 75 rfl) rfl rfl ?_
              refine r_geti (kf := 8) (zdk oM_error 76 rfl) rfl rfl (by decide) lF_M_113 rfl ?_
              rw [g8, nI_pred]
              refine r_icmp_ge (tgt := 174) (zdk oM_error 77 rfl) (by decide) (fun _ => ?_) (fun q9 => absurd ((Int32.le_refl (nI vs))) q9)
              first | refine r_iinc (zdk oM_error 104 rfl) rfl (zinc _) rfl ?_ | refine r_iinc (zdk oM_error 104 rfl) rfl rfl rfl ?_
              refine r_goto (tgt := 117) (zdk oM_error 105 rfl) (by decide) ?_
              refine r_mask [true, true, true, false] rfl rfl ?_
              refine ih (f + 1) p H (by omega) ?_ ho hl ?_
              · rw [Nat.succ_mul]; exact hq
              · intro f' pt hf' hpt
                by_cases e : f' = f
                · rw [e]; exact hy pt (by omega)
                · exact hx f' pt (by omega) hpt
            | succ k2 ih2 =>
              intro pt p H hpt hq ho hl hx hy
              have g8 : H.1 27 8 = nI vs := by rw [ho 27 8 (by decide) (by decide) (by decide) (by decide), p8]
              have g1 : H.1 27 1 = nI n := by rw [ho 27 1 (by decide) (by decide) (by decide) (by decide), m1]
              have g28 : H.1 28 = h.1 28 := funext (fun j => by rw [ho 28 j (by decide) (by decide) (by decide) (by decide), m28])
              have hp4 := qE_le v5 hn _ p hq
              have ho' : ∀ a j, ¬ (a = 27 ∧ (j = 7 ∨ j = 8)) → a ≠ 29 → a ≠ 30 → a ≠ 31 → a ≠ 38 → H.1 a j = h.1 a j := fun a j c1 c2 c3 c4 c5 => by rw [ho a j c2 c3 c4 c5, o0 a j c1]
              have hmod : (f * (vs + 1) + pt) % (vs + 1) = pt := by
                rw [Nat.mul_comm, Nat.mul_add_mod]
                exact Nat.mod_eq_of_lt (by omega)
              have hsl : 6 * f + pt < 24 := by omega
              have key : ∀ msg : Bool, msg = decide (pt = 0) → zMC false (d + 3) 0 0 0 0 mM_error K 146 [some (.inr (.inr 27)), some (.inl (nI p)), some (.inl (nI f)), some (.inl (nI pt - 1))] [.inl (fBo msg), .inl (nI p), .inr (.inr 27)] H := by
                intro msg hmsg
                have hneg : (!msg) = decide (¬ (f * (vs + 1) + pt) % (vs + 1) = 0) := by rw [hmod, hmsg]; by_cases q : pt = 0 <;> simp [q]
                refine r_bipush (v := 6) (zdk oM_error 85 rfl) (by decide) ?_
                refine r_iload_n (zdk oM_error 86 rfl) rfl rfl ?_
                refine r_imul (zdk oM_error 87 rfl) ?_
                refine r_tp (pk_mul 6 f) ?_
                refine r_iconst (v := 1) (zdk oM_error 88 rfl) (by decide) ?_
                refine r_iadd (zdk oM_error 89 rfl) ?_
                refine r_tp (nI_1 (6 * f)) ?_
                refine r_iload_n (zdk oM_error 90 rfl) rfl rfl ?_
                refine r_iadd (zdk oM_error 91 rfl) ?_
                refine r_tp (show nI (6 * f + 1) + (nI pt - 1) = nI (6 * f + pt) by
                  have : nI (6 * f + 1) + (nI pt - 1) = nI (6 * f) + nI 1 + (nI pt - nI 1) := by rw [nI_add]; rfl
                  rw [this, Int32.add_assoc, Int32.add_comm (nI 1), Int32.sub_add_cancel, nI_add]) ?_
                refine r_callV3 (M' := mM_over) (zdk oM_error 92 rfl) lM_M_123 vM_over rfl rfl (Nat.le_of_ble_eq_true rfl) rfl (spM_over d H n vs p (6 * f + pt) msg g1 hn g8 v5 hp4 hsl) ?_
                intro r h5 hw
                rw [g28, hneg] at hw
                cases ef : pE (h.1 28) n vs (decide (¬ (f * (vs + 1) + pt) % (vs + 1) = 0)) 12 p with
                | inl x =>
                  rw [ef] at hw
                  obtain ⟨er, o5, l5⟩ := hw
                  cases er
                  have hx4 := pE_err 12 p x ef ⟨hp4, hn⟩
                  have hF : fErr (h.1 28) n = nI x := by
                    have hq1 : qE (h.1 28) n vs (f * (vs + 1) + pt + 1) = .inl x := by
                      simp only [qE, hq]
                      rw [ef]
                    have hlt : f * (vs + 1) + pt + 1 ≤ ph * (vs + 1) := by
                      have : (f + 1) * (vs + 1) ≤ ph * (vs + 1) := Nat.mul_le_mul_right _ (by omega)
                      rw [Nat.succ_mul] at this
                      omega
                    have := qE_mono (k := ph * (vs + 1) - (f * (vs + 1) + pt + 1)) hq1
                    rw [show f * (vs + 1) + pt + 1 + (ph * (vs + 1) - (f * (vs + 1) + pt + 1)) = ph * (vs + 1) by omega] at this
                    rw [eErr, this]
                    rfl
                  refine r_istore_n (zdk oM_error 93 rfl) rfl (Nat.le_of_ble_eq_true rfl) rfl ?_
                  refine r_iload_n (zdk oM_error 94 rfl) rfl rfl ?_
                  refine r_if_ge (tgt := 168) (zdk oM_error 95 rfl) (by decide) (fun q9 => absurd q9 ((nI_mneg (x := x) (by omega)))) (fun _ => ?_)
                  refine r_iconst (v := -1) (zdk oM_error 96 rfl) (by decide) ?_
                  refine r_iload_n (zdk oM_error 97 rfl) rfl rfl ?_
                  refine r_isub (zdk oM_error 98 rfl) ?_
                  refine r_iconst (v := 1) (zdk oM_error 99 rfl) (by decide) ?_
                  refine r_iadd (zdk oM_error 100 rfl) ?_
                  refine r_tp (nI_m1s x) ?_
                  refine r_iret (zdk oM_error 101 rfl) rfl ?_
                  refine finH x h5 (by omega) hF ?_ (l5.trans hl)
                  intro a j c1 c2 c3 c4 c5
                  rw [o5 a j c5 (fun z => c2 z.1)]
                  exact ho' a j c1 c2 c3 c4 c5
                | inr y =>
                  obtain ⟨q, dd⟩ := y
                  rw [ef] at hw
                  obtain ⟨er, b29, b30, b31, o5, l5⟩ := hw
                  cases er
                  obtain ⟨-, w2, -⟩ := pE_words 12 p q dd ef
                  have hq1 : qE (h.1 28) n vs (f * (vs + 1) + (pt + 1)) = .inr q := by
                    rw [← Nat.add_assoc]
                    simp only [qE, hq]
                    rw [ef]
                  refine r_istore_n (zdk oM_error 93 rfl) rfl (Nat.le_of_ble_eq_true rfl) rfl ?_
                  refine r_iload_n (zdk oM_error 94 rfl) rfl rfl ?_
                  refine r_if_ge (tgt := 168) (zdk oM_error 95 rfl) (by decide) (fun _ => ?_) (fun q9 => absurd ((nI_pos' (n := q) (by omega))) q9)
                  refine r_iinc (zdk oM_error 102 rfl) rfl (show nI pt - 1 + Int32.ofInt 1 = nI (pt + 1) - 1 by rw [nI_pred, show Int32.ofInt 1 = (1 : Int32) from rfl, Int32.sub_add_cancel]) rfl ?_
                  refine r_goto (tgt := 127) (zdk oM_error 103 rfl) (by decide) ?_
                  refine ih2 (pt + 1) q h5 (by omega) hq1 ?_ (l5.trans hl) ?_ ?_
                  · intro a j c1 c2 c3 c4
                    rw [o5 a j c4 (fun z => c1 z.1) (fun z => c2 z.1) (fun z => c3 z.1)]
                    exact ho a j c1 c2 c3 c4
                  · intro f' pt' hf' hpt'
                    obtain ⟨a, b, c, z1, z2, z3, z4⟩ := hx f' pt' hf' hpt'
                    exact ⟨a, b, c, z1, by rw [o5 29 _ (by decide) (by omega) (by omega) (by omega), z2], by rw [o5 30 _ (by decide) (by omega) (by omega) (by omega), z3], by rw [o5 31 _ (by decide) (by omega) (by omega) (by omega), z4]⟩
                  · intro pt' hpt'
                    by_cases e : pt' = pt
                    · rw [e]
                      exact ⟨p, q, dd, ⟨hq, ef⟩, b29, b30, b31⟩
                    · obtain ⟨a, b, c, z1, z2, z3, z4⟩ := hy pt' (by omega)
                      exact ⟨a, b, c, z1, by rw [o5 29 _ (by decide) (by omega) (by omega) (by omega), z2], by rw [o5 30 _ (by decide) (by omega) (by omega) (by omega), z3], by rw [o5 31 _ (by decide) (by omega) (by omega) (by omega), z4]⟩
              refine r_iload_n (zdk oM_error 74 rfl) rfl rfl ?_
              refine r_aload_n (zdk oM_error 75 rfl) rfl rfl ?_
              refine r_geti (kf := 8) (zdk oM_error 76 rfl) rfl rfl (by decide) lF_M_113 rfl ?_
              rw [g8]
              by_cases hz : pt = 0
              · subst hz
                refine r_icmp_ge (tgt := 174) (zdk oM_error 77 rfl) (by decide) (fun q9 => absurd q9 ((show ¬ nI vs ≤ nI 0 - 1 by rw [Int32.le_iff_toInt_le, nI_toInt (by omega)]; simp [nI]; omega))) (fun _ => ?_)
                refine r_aload_n (zdk oM_error 78 rfl) rfl rfl ?_
                refine r_iload_n (zdk oM_error 79 rfl) rfl rfl ?_
                refine r_iload_n (zdk oM_error 80 rfl) rfl rfl ?_
                refine r_if_ge (tgt := 145) (zdk oM_error 81 rfl) (by decide) (fun q9 => absurd q9 ((show ¬ (0 : Int32) ≤ nI 0 - 1 by decide))) (fun _ => ?_)
                refine r_iconst (v := 1) (zdk oM_error 82 rfl) (by decide) ?_
                refine r_goto (tgt := 146) (zdk oM_error 83 rfl) (by decide) ?_
                exact key true rfl
              · obtain ⟨v, rfl⟩ : ∃ v, pt = v + 1 := ⟨pt - 1, by omega⟩
                rw [nI_pred] at key ⊢
                refine r_icmp_ge (tgt := 174) (zdk oM_error 77 rfl) (by decide) (fun q9 => absurd q9 ((nI_ge (a := v) (b := vs) (by omega) (by omega)))) (fun _ => ?_)
                refine r_aload_n (zdk oM_error 78 rfl) rfl rfl ?_
                refine r_iload_n (zdk oM_error 79 rfl) rfl rfl ?_
                refine r_iload_n (zdk oM_error 80 rfl) rfl rfl ?_
                refine r_if_ge (tgt := 145) (zdk oM_error 81 rfl) (by decide) (fun _ => ?_) (fun q9 => absurd ((nI_pos' (n := v) (by omega))) q9)
                refine r_iconst (v := 0) (zdk oM_error 84 rfl) (by decide) ?_
                exact key false rfl
          exact inner (vs + 1) 0 p H (by omega) hq ho hl hx (fun pt' hpt' => by omega)
      refine r_iconst (v := 0) (zdk oM_error 66 rfl) (by decide) ?_
      refine r_istore_n (zdk oM_error 67 rfl) rfl (Nat.le_of_ble_eq_true rfl) rfl ?_
      refine r_mask [true, true, true, false] rfl rfl ?_
      exact outer ph 0 (2 + vs) H0 (by omega) (by rw [Nat.zero_mul]; rfl) (fun _ _ _ _ _ _ => rfl) l0 (fun f' pt hf' => by omega)
    have ranges : ∀ (k v : Nat), v + k = vs → fHv (h.1 28) n vs 0 = fHv (h.1 28) n k v → zMC false (d + 3) 0 0 0 0 mM_error K 71 [some (.inr (.inr 27)), some (.inl (nI (2 + v))), some (.inl (nI v)), none] [] H0 := by
      intro k
      induction k with
      | zero =>
        intro v hv hE
        have ev : v = vs := by omega
        subst ev
        refine r_iload_n (zdk oM_error 43 rfl) rfl rfl ?_
        refine r_aload_n (zdk oM_error 44 rfl) rfl rfl ?_
        refine r_geti (kf := 8) (zdk oM_error 45 rfl) rfl rfl (by decide) lF_M_113 rfl ?_
        rw [p8]
        refine r_icmp_ge (tgt := 115) (zdk oM_error 46 rfl) (by decide) (fun _ => ?_) (fun q9 => absurd ((Int32.le_refl (nI v))) q9)
        exact exprs (by rw [eHe, hE]; rfl)
      | succ k ih =>
        intro v hv hE
        have err : fIn (h.1 28) n (2 + v) 0 15 = false → zMC false (d + 3) 0 0 0 0 mM_error K 102 [some (.inr (.inr 27)), some (.inl (nI (2 + v))), some (.inl (nI v)), none] [] H0 := fun q => by
          have hF : fErr (h.1 28) n = nI (2 + v) := by
            have : fHe (h.1 28) n = nI (2 + v) := by rw [eHe, hE]; simp only [fHv]; rw [if_neg (by rw [q]; decide)]
            unfold fErr
            rw [this, if_neg (nI_nm1 (by omega))]
          refine r_iload_n (zdk oM_error 59 rfl) rfl rfl ?_
          refine r_iconst (v := 1) (zdk oM_error 60 rfl) (by decide) ?_
          refine r_iadd (zdk oM_error 61 rfl) ?_
          refine r_iret (zdk oM_error 62 rfl) rfl ?_
          exact finH (2 + v) H0 (by omega) hF (fun a j c1 _ _ _ _ => o0 a j c1) l0
        refine r_iload_n (zdk oM_error 43 rfl) rfl rfl ?_
        refine r_aload_n (zdk oM_error 44 rfl) rfl rfl ?_
        refine r_geti (kf := 8) (zdk oM_error 45 rfl) rfl rfl (by decide) lF_M_113 rfl ?_
        rw [p8]
        refine r_icmp_ge (tgt := 115) (zdk oM_error 46 rfl) (by decide) (fun q9 => absurd q9 ((nI_ge (a := v) (b := vs) (by omega) (by omega)))) (fun _ => ?_)
        refine r_iload_n (zdk oM_error 47 rfl) rfl rfl ?_
        refine r_aload_n (zdk oM_error 48 rfl) rfl rfl ?_
        refine r_geti (kf := 1) (zdk oM_error 49 rfl) rfl rfl (by decide) lF_M_82 rfl ?_
        rw [m1]
        refine r_icmp_ge (tgt := 102) (zdk oM_error 50 rfl) (by decide) (fun hc => ?_) (fun hc => ?_)
        · have hpn : n ≤ 2 + v := (nI_leI (by omega) (by omega)).mp hc
          exact err (by unfold fIn; rw [decide_eq_false (by omega)])
        · have hpn : 2 + v < n := Nat.not_le.mp (fun q => hc ((nI_leI (by omega) (by omega)).mpr q))
          refine r_aload_n (zdk oM_error 51 rfl) rfl rfl ?_
          refine r_getr (kf := 2) (zdk oM_error 52 rfl) rfl rfl (by decide) lF_M_7 rfl ?_
          refine r_iload_n (zdk oM_error 53 rfl) rfl rfl ?_
          refine r_iald (zdk oM_error 54 rfl) rfl (vp_in_nI (n := 2 + v) (by omega) (by decide)) ?_
          refine r_iconst (v := 0) (zdk oM_error 55 rfl) (by decide) ?_
          refine r_bipush (v := 15) (zdk oM_error 56 rfl) (by decide) ?_
          rw [nI_clamp (n := 2 + v) (by omega), m28]
          refine r_callS3i (M' := mM_within) (zdk oM_error 57 rfl) lM_M_100 sM_within (Nat.le_of_ble_eq_true rfl) rfl (spM_within (d + 2) H0 (h.1 28 (2 + v)) 0 15) ?_
          refine r_if_ne (tgt := 106) (zdk oM_error 58 rfl) (by decide) (fun hw => ?_) (fun hw => ?_)
          · have hin : fIn (h.1 28) n (2 + v) 0 15 = true := by
              cases q : fIn (h.1 28) n (2 + v) 0 15 with
              | true => rfl
              | false => exact absurd ((fIn_wi hpn).mpr q) hw
            first | refine r_iinc (zdk oM_error 63 rfl) rfl (zinc _) rfl ?_ | refine r_iinc (zdk oM_error 63 rfl) rfl rfl rfl ?_
            first | refine r_iinc (zdk oM_error 64 rfl) rfl (zinc _) rfl ?_ | refine r_iinc (zdk oM_error 64 rfl) rfl rfl rfl ?_
            refine r_goto (tgt := 71) (zdk oM_error 65 rfl) (by decide) ?_
            refine ih (v + 1) (by omega) ?_
            rw [hE]
            simp only [fHv]
            rw [if_pos hin]
          · exact err ((fIn_wi hpn).mp hw)
    exact ranges vs 0 (by omega) rfl
  refine zmet (by decide +kernel) (Nat.le_of_ble_eq_true rfl) ?_
  refine r_aload_n (zdk oM_error 0 rfl) rfl rfl ?_
  refine r_geti (kf := 1) (zdk oM_error 1 rfl) rfl rfl (by decide) lF_M_82 rfl ?_
  refine r_if_eq (tgt := 21) (zdk oM_error 2 rfl) (by decide) (fun hc => ?_) (fun hc => ?_)
  · exact fin0 (by unfold fIn; rw [decide_eq_false (by have := e0n.mp hc; omega)])
  · have hn0 : 0 < n := Nat.pos_of_ne_zero (fun q => hc (e0n.mpr q))
    refine r_aload_n (zdk oM_error 3 rfl) rfl rfl ?_
    refine r_getr (kf := 2) (zdk oM_error 4 rfl) rfl rfl (by decide) lF_M_7 rfl ?_
    refine r_iconst (v := 0) (zdk oM_error 5 rfl) (by decide) ?_
    refine r_iald (zdk oM_error 6 rfl) rfl (vp_in_nI (n := 0) (by decide) (by decide)) ?_
    refine r_iconst (v := 1) (zdk oM_error 7 rfl) (by decide) ?_
    refine r_iconst (v := 4) (zdk oM_error 8 rfl) (by decide) ?_
    refine r_callS3i (M' := mM_within) (zdk oM_error 9 rfl) lM_M_100 sM_within (Nat.le_of_ble_eq_true rfl) rfl (spM_within (d + 2) h (h.1 28 0) 1 4) ?_
    refine r_if_ne (tgt := 23) (zdk oM_error 10 rfl) (by decide) (fun hw => ?_) (fun hw => ?_)
    · have c0 : fIn (h.1 28) n 0 1 4 = true := by
        cases q : fIn (h.1 28) n 0 1 4 with
        | true => rfl
        | false => exact absurd ((fIn_wi hn0).mpr q) hw
      refine r_aload_n (zdk oM_error 13 rfl) rfl rfl ?_
      refine r_geti (kf := 1) (zdk oM_error 14 rfl) rfl rfl (by decide) lF_M_82 rfl ?_
      refine r_iconst (v := 1) (zdk oM_error 15 rfl) (by decide) ?_
      refine r_icmp_eq (tgt := 45) (zdk oM_error 16 rfl) (by decide) (fun h1 => ?_) (fun h1 => ?_)
      · exact fin1 c0 (by unfold fIn; rw [decide_eq_false (by have := e1n.mp h1; omega)])
      · have hn1 : 1 < n := by
          have : ¬ n = 1 := fun q => h1 (e1n.mpr q)
          omega
        refine r_aload_n (zdk oM_error 17 rfl) rfl rfl ?_
        refine r_getr (kf := 2) (zdk oM_error 18 rfl) rfl rfl (by decide) lF_M_7 rfl ?_
        refine r_iconst (v := 1) (zdk oM_error 19 rfl) (by decide) ?_
        refine r_iald (zdk oM_error 20 rfl) rfl (vp_in_nI (n := 1) (by decide) (by decide)) ?_
        refine r_iconst (v := 2) (zdk oM_error 21 rfl) (by decide) ?_
        refine r_iconst (v := 5) (zdk oM_error 22 rfl) (by decide) ?_
        refine r_callS3i (M' := mM_within) (zdk oM_error 23 rfl) lM_M_100 sM_within (Nat.le_of_ble_eq_true rfl) rfl (spM_within (d + 2) h (h.1 28 1) 2 5) ?_
        refine r_if_ne (tgt := 47) (zdk oM_error 24 rfl) (by decide) (fun hw2 => ?_) (fun hw2 => ?_)
        · refine go c0 ?_
          cases q : fIn (h.1 28) n 1 2 5 with
          | true => rfl
          | false => exact absurd ((fIn_wi hn1).mpr q) hw2
        · exact fin1 c0 ((fIn_wi hn1).mp hw2)
    · exact fin0 ((fIn_wi hn0).mp hw)
