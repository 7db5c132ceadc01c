/-! the reference works out an expression -/
def mAt (h : zH) (np cy : Nat) (s : Int32) : Prop := h.1 27 16 = nI np ∧ h.1 27 17 = nI cy ∧ h.1 27 18 = s ∧ 1 ≤ np ∧ np ≤ 7 ∧ cy < 2 ^ 30
theorem fB_cmp {s : Int32} {p : Nat} (h : ¬ fB s p = 1) : fB s p = 0 := (fB_01 s p).resolve_right h
theorem spM_times (d : Nat) (h : zH) (np : Nat) (v : Int32) (ha : h.1 27 16 = nI np) (h7 : np ≤ 7) : zSP d 0 0 mM_times [.inr (.inr 27), .inl v] h (zI (nI (fTm (h.1 36) (h.1 27 18) v np)) h) := by
  suffices main : ∀ K : zR → zH → Prop, (∀ x, x = nI (fTm (h.1 36) (h.1 27 18) v np) → K (.inl (some (.inl x))) h) → zSP d 0 0 mM_times [.inr (.inr 27), .inl v] h K from main _ (fun x hx => zIi hx)
  intro K hK
  have loop : ∀ k p, p + k = np → zMC false d 0 0 0 0 mM_times K 4 [some (.inr (.inr 27)), some (.inl v), some (.inl (nI (fTm (h.1 36) (h.1 27 18) v p))), some (.inl (nI p))] [] h := by
    intro k
    induction k with
    | zero =>
      intro p hp
      have e : p = np := by omega
      subst e
      refine r_iload_n (zdk oM_times 4 rfl) rfl rfl ?_
      refine r_aload_n (zdk oM_times 5 rfl) rfl rfl ?_
      refine r_geti (kf := 16) (zdk oM_times 6 rfl) rfl rfl (by decide) lF_M_133 rfl ?_
      rw [ha]
      refine r_icmp_ge (tgt := 48) (zdk oM_times 7 rfl) (by decide) (fun _ => ?_) (fun q9 => absurd ((Int32.le_refl (nI p))) q9)
      refine r_iload_n (zdk oM_times 30 rfl) rfl rfl ?_
      refine r_iret (zdk oM_times 31 rfl) rfl ?_
      exact hK _ rfl
    | succ k ih =>
      intro p hp
      have ep : (nI p).toNatClampNeg = p := nI_clamp (by omega)
      have step := ih (p + 1) (by omega)
      refine r_iload_n (zdk oM_times 4 rfl) rfl rfl ?_
      refine r_aload_n (zdk oM_times 5 rfl) rfl rfl ?_
      refine r_geti (kf := 16) (zdk oM_times 6 rfl) rfl rfl (by decide) lF_M_133 rfl ?_
      rw [ha]
      refine r_icmp_ge (tgt := 48) (zdk oM_times 7 rfl) (by decide) (fun q9 => absurd q9 ((nI_ge (a := p) (b := np) (by omega) (by omega)))) (fun _ => ?_)
      refine r_aload_n (zdk oM_times 8 rfl) rfl rfl ?_
      refine r_geti (kf := 18) (zdk oM_times 9 rfl) rfl rfl (by decide) lF_M_136 rfl ?_
      refine r_iload_n (zdk oM_times 10 rfl) rfl rfl ?_
      refine r_ishr (zdk oM_times 11 rfl) ?_
      refine r_iconst (v := 1) (zdk oM_times 12 rfl) (by decide) ?_
      refine r_iand (zdk oM_times 13 rfl) ?_
      refine r_tp (y := fB (h.1 27 18) p) rfl ?_
      refine r_iconst (v := 1) (zdk oM_times 14 rfl) (by decide) ?_
      refine r_icmp_ne (tgt := 40) (zdk oM_times 15 rfl) (by decide) (fun hc => ?_) (fun hc => ?_)
      · have e9 : fTm (h.1 36) (h.1 27 18) v (p + 1) = fTm (h.1 36) (h.1 27 18) v p := by simp [fTm, hc]
        rw [e9] at step
        refine r_iload_n (zdk oM_times 26 rfl) rfl rfl ?_
        refine r_istore_n (zdk oM_times 27 rfl) rfl (Nat.le_of_ble_eq_true rfl) rfl ?_
        first | refine r_iinc (zdk oM_times 28 rfl) rfl (zinc _) rfl ?_ | refine r_iinc (zdk oM_times 28 rfl) rfl rfl rfl ?_
        refine r_goto (tgt := 4) (zdk oM_times 29 rfl) (by decide) ?_
        exact step
      · refine r_aload_n (zdk oM_times 16 rfl) rfl rfl ?_
        refine r_getr (kf := 15) (zdk oM_times 17 rfl) rfl rfl (by decide) lF_M_34 rfl ?_
        refine r_iload_n (zdk oM_times 18 rfl) rfl rfl ?_
        refine r_iald (zdk oM_times 19 rfl) rfl (vp_in_nI (n := p) (by omega) (by decide)) ?_
        refine r_iload_n (zdk oM_times 20 rfl) rfl rfl ?_
        rw [ep]
        refine r_icmp_ne (tgt := 40) (zdk oM_times 21 rfl) (by decide) (fun hc2 => ?_) (fun hc2 => ?_)
        · have e9 : fTm (h.1 36) (h.1 27 18) v (p + 1) = fTm (h.1 36) (h.1 27 18) v p := by simp [fTm, hc2]
          rw [e9] at step
          refine r_iload_n (zdk oM_times 26 rfl) rfl rfl ?_
          refine r_istore_n (zdk oM_times 27 rfl) rfl (Nat.le_of_ble_eq_true rfl) rfl ?_
          first | refine r_iinc (zdk oM_times 28 rfl) rfl (zinc _) rfl ?_ | refine r_iinc (zdk oM_times 28 rfl) rfl rfl rfl ?_
          refine r_goto (tgt := 4) (zdk oM_times 29 rfl) (by decide) ?_
          exact step
        · have e9 : fTm (h.1 36) (h.1 27 18) v (p + 1) = fTm (h.1 36) (h.1 27 18) v p + 1 := by simp [fTm, hc, hc2]
          rw [e9] at step
          refine r_iload_n (zdk oM_times 22 rfl) rfl rfl ?_
          refine r_iconst (v := 1) (zdk oM_times 23 rfl) (by decide) ?_
          refine r_iadd (zdk oM_times 24 rfl) ?_
          refine r_tp (nI_1 _) ?_
          refine r_goto (tgt := 41) (zdk oM_times 25 rfl) (by decide) ?_
          refine r_istore_n (zdk oM_times 27 rfl) rfl (Nat.le_of_ble_eq_true rfl) rfl ?_
          first | refine r_iinc (zdk oM_times 28 rfl) rfl (zinc _) rfl ?_ | refine r_iinc (zdk oM_times 28 rfl) rfl rfl rfl ?_
          refine r_goto (tgt := 4) (zdk oM_times 29 rfl) (by decide) ?_
          exact step
  refine zmet (by decide +kernel) (Nat.le_of_ble_eq_true rfl) ?_
  refine r_iconst (v := 0) (zdk oM_times 0 rfl) (by decide) ?_
  refine r_istore_n (zdk oM_times 1 rfl) rfl (Nat.le_of_ble_eq_true rfl) rfl ?_
  refine r_iconst (v := 0) (zdk oM_times 2 rfl) (by decide) ?_
  refine r_istore_n (zdk oM_times 3 rfl) rfl (Nat.le_of_ble_eq_true rfl) rfl ?_
  exact loop np 0 (by omega)
def fOH (m : Nat → Int32) (s what : Int32) (np p : Nat) : Int32 := if what = 36 then fMin m s p else if what = 37 then fMax m s p else fMost m s np p
def fBet (m : Nat → Int32) (s what : Int32) (np p : Nat) : Bool := decide (fOH m s what np p = -1 ∨ (if what = 36 then m p < fOH m s what np p else if what = 37 then fOH m s what np p < m p else (fTm m s (fOH m s what np p) np < fTm m s (m p) np ∨ fTm m s (m p) np = fTm m s (fOH m s what np p) np ∧ m p < fOH m s what np p)))
theorem fOH_s {m : Nat → Int32} {s what : Int32} {np p : Nat} : fOH m s what np (p + 1) = if fB s p = 1 ∧ fBet m s what np p = true then m p else fOH m s what np p := by
  unfold fBet fOH
  by_cases c36 : what = 36
  · simp only [c36, if_true, fMin, decide_eq_true_eq]
  · by_cases c37 : what = 37
    · subst c37
      simp only [if_neg (show ¬ (37 : Int32) = 36 by decide), if_true, fMax, decide_eq_true_eq]
    · simp only [if_neg c36, if_neg c37, fMost, decide_eq_true_eq]
theorem spM_ofHeard (d : Nat) (h : zH) (np : Nat) (what : Int32) (ha : h.1 27 16 = nI np) (h7 : np ≤ 7) : zSP (d + 1) 0 0 mM_ofHeard [.inr (.inr 27), .inl what] h (zI (fZ (fOH (h.1 36) (h.1 27 18) what np np)) h) := by
  suffices main : ∀ K : zR → zH → Prop, (∀ x, x = fZ (fOH (h.1 36) (h.1 27 18) what np np) → K (.inl (some (.inl x))) h) → zSP (d + 1) 0 0 mM_ofHeard [.inr (.inr 27), .inl what] h K from main _ (fun x hx => zIi hx)
  intro K hK
  have hT : ∀ v, fTm (h.1 36) (h.1 27 18) v np ≤ np := fun v => fTm_le _ _ v np
  have loop : ∀ k p, p + k = np → zMC false (d + 1) 0 0 0 0 mM_ofHeard K 4 [some (.inr (.inr 27)), some (.inl what), some (.inl (fOH (h.1 36) (h.1 27 18) what np p)), some (.inl (nI p)), none, none, none] [] h := by
    intro k
    induction k with
    | zero =>
      intro p hp
      have e : p = np := by omega
      subst e
      refine r_iload_n (zdk oM_ofHeard 4 rfl) rfl rfl ?_
      refine r_aload_n (zdk oM_ofHeard 5 rfl) rfl rfl ?_
      refine r_geti (kf := 16) (zdk oM_ofHeard 6 rfl) rfl rfl (by decide) lF_M_133 rfl ?_
      rw [ha]
      refine r_icmp_ge (tgt := 138) (zdk oM_ofHeard 7 rfl) (by decide) (fun _ => ?_) (fun q9 => absurd ((Int32.le_refl (nI p))) q9)
      refine r_iload_n (zdk oM_ofHeard 73 rfl) rfl rfl ?_
      refine r_iconst (v := -1) (zdk oM_ofHeard 74 rfl) (by decide) ?_
      refine r_icmp_ne (tgt := 147) (zdk oM_ofHeard 75 rfl) (by decide) (fun hc => ?_) (fun hc => ?_)
      · refine r_iload_n (zdk oM_ofHeard 78 rfl) rfl rfl ?_
        refine r_iret (zdk oM_ofHeard 79 rfl) rfl ?_
        exact hK _ (by unfold fZ; rw [if_neg hc])
      · refine r_iconst (v := 0) (zdk oM_ofHeard 76 rfl) (by decide) ?_
        refine r_goto (tgt := 148) (zdk oM_ofHeard 77 rfl) (by decide) ?_
        refine r_iret (zdk oM_ofHeard 79 rfl) rfl ?_
        exact hK _ (by unfold fZ; rw [if_pos hc])
    | succ k ih =>
      intro p hp
      have ep : (nI p).toNatClampNeg = p := nI_clamp (by omega)
      have step := ih (p + 1) (by omega)
      rw [fOH_s] at step
      refine r_iload_n (zdk oM_ofHeard 4 rfl) rfl rfl ?_
      refine r_aload_n (zdk oM_ofHeard 5 rfl) rfl rfl ?_
      refine r_geti (kf := 16) (zdk oM_ofHeard 6 rfl) rfl rfl (by decide) lF_M_133 rfl ?_
      rw [ha]
      refine r_icmp_ge (tgt := 138) (zdk oM_ofHeard 7 rfl) (by decide) (fun q9 => absurd q9 ((nI_ge (a := p) (b := np) (by omega) (by omega)))) (fun _ => ?_)
      refine r_aload_n (zdk oM_ofHeard 8 rfl) rfl rfl ?_
      refine r_getr (kf := 15) (zdk oM_ofHeard 9 rfl) rfl rfl (by decide) lF_M_34 rfl ?_
      refine r_iload_n (zdk oM_ofHeard 10 rfl) rfl rfl ?_
      refine r_iald (zdk oM_ofHeard 11 rfl) rfl (vp_in_nI (n := p) (by omega) (by decide)) ?_
      rw [ep]
      generalize hbe : fOH (h.1 36) (h.1 27 18) what np p = best at *
      have back2 : ∀ is be : Bool, is = decide (fB (h.1 27 18) p = 1) → be = fBet (h.1 36) (h.1 27 18) what np p → zMC false (d + 1) 0 0 0 0 mM_ofHeard K 113 [some (.inr (.inr 27)), some (.inl what), some (.inl best), some (.inl (nI p)), some (.inl (h.1 36 p)), some (.inl (fBo is)), none] [.inl (fBo be)] h := by
        intro is be his hbe2
        have hcond : (fB (h.1 27 18) p = 1 ∧ fBet (h.1 36) (h.1 27 18) what np p = true) ↔ (is = true ∧ be = true) := by rw [his, hbe2]; simp
        simp only [hcond] at step
        cases is with
        | false =>
          rw [if_neg (by simp)] at step
          refine r_istore (zdk oM_ofHeard 62 rfl) (Nat.le_of_ble_eq_true rfl) rfl ?_
          refine r_iload (zdk oM_ofHeard 63 rfl) rfl ?_
          refine r_if_eq (tgt := 130) (zdk oM_ofHeard 64 rfl) (by decide) (fun _ => ?_) (fun q9 => absurd ((rfl : fBo false = 0)) q9)
          refine r_iload_n (zdk oM_ofHeard 69 rfl) rfl rfl ?_
          refine r_istore_n (zdk oM_ofHeard 70 rfl) rfl (Nat.le_of_ble_eq_true rfl) rfl ?_
          first | refine r_iinc (zdk oM_ofHeard 71 rfl) rfl (zinc _) rfl ?_ | refine r_iinc (zdk oM_ofHeard 71 rfl) rfl rfl rfl ?_
          refine r_goto (tgt := 4) (zdk oM_ofHeard 72 rfl) (by decide) ?_
          refine r_mask [true, true, true, true, false, false, false] rfl rfl ?_
          exact step
        | true =>
          cases be with
          | false =>
            rw [if_neg (by simp)] at step
            refine r_istore (zdk oM_ofHeard 62 rfl) (Nat.le_of_ble_eq_true rfl) rfl ?_
            refine r_iload (zdk oM_ofHeard 63 rfl) rfl ?_
            refine r_if_eq (tgt := 130) (zdk oM_ofHeard 64 rfl) (by decide) (fun q9 => absurd q9 ((show ¬ fBo true = 0 by decide))) (fun _ => ?_)
            refine r_iload (zdk oM_ofHeard 65 rfl) rfl ?_
            refine r_if_eq (tgt := 130) (zdk oM_ofHeard 66 rfl) (by decide) (fun _ => ?_) (fun q9 => absurd ((rfl : fBo false = 0)) q9)
            refine r_iload_n (zdk oM_ofHeard 69 rfl) rfl rfl ?_
            refine r_istore_n (zdk oM_ofHeard 70 rfl) rfl (Nat.le_of_ble_eq_true rfl) rfl ?_
            first | refine r_iinc (zdk oM_ofHeard 71 rfl) rfl (zinc _) rfl ?_ | refine r_iinc (zdk oM_ofHeard 71 rfl) rfl rfl rfl ?_
            refine r_goto (tgt := 4) (zdk oM_ofHeard 72 rfl) (by decide) ?_
            refine r_mask [true, true, true, true, false, false, false] rfl rfl ?_
            exact step
          | true =>
            rw [if_pos ⟨rfl, rfl⟩] at step
            refine r_istore (zdk oM_ofHeard 62 rfl) (Nat.le_of_ble_eq_true rfl) rfl ?_
            refine r_iload (zdk oM_ofHeard 63 rfl) rfl ?_
            refine r_if_eq (tgt := 130) (zdk oM_ofHeard 64 rfl) (by decide) (fun q9 => absurd q9 ((show ¬ fBo true = 0 by decide))) (fun _ => ?_)
            refine r_iload (zdk oM_ofHeard 65 rfl) rfl ?_
            refine r_if_eq (tgt := 130) (zdk oM_ofHeard 66 rfl) (by decide) (fun q9 => absurd q9 ((show ¬ fBo true = 0 by decide))) (fun _ => ?_)
            refine r_iload (zdk oM_ofHeard 67 rfl) rfl ?_
            refine r_goto (tgt := 131) (zdk oM_ofHeard 68 rfl) (by decide) ?_
            refine r_istore_n (zdk oM_ofHeard 70 rfl) rfl (Nat.le_of_ble_eq_true rfl) rfl ?_
            first | refine r_iinc (zdk oM_ofHeard 71 rfl) rfl (zinc _) rfl ?_ | refine r_iinc (zdk oM_ofHeard 71 rfl) rfl rfl rfl ?_
            refine r_goto (tgt := 4) (zdk oM_ofHeard 72 rfl) (by decide) ?_
            refine r_mask [true, true, true, true, false, false, false] rfl rfl ?_
            exact step
      have back : ∀ is : Bool, is = decide (fB (h.1 27 18) p = 1) → zMC false (d + 1) 0 0 0 0 mM_ofHeard K 37 [some (.inr (.inr 27)), some (.inl what), some (.inl best), some (.inl (nI p)), some (.inl (h.1 36 p)), none, none] [.inl (fBo is)] h := by
        intro is his
        have yes : fBet (h.1 36) (h.1 27 18) what np p = true → zMC false (d + 1) 0 0 0 0 mM_ofHeard K 108 [some (.inr (.inr 27)), some (.inl what), some (.inl best), some (.inl (nI p)), some (.inl (h.1 36 p)), some (.inl (fBo is)), none] [] h := fun q => by
          refine r_iconst (v := 1) (zdk oM_ofHeard 59 rfl) (by decide) ?_
          refine r_goto (tgt := 113) (zdk oM_ofHeard 60 rfl) (by decide) ?_
          exact back2 is true his q.symm
        have no : fBet (h.1 36) (h.1 27 18) what np p = false → zMC false (d + 1) 0 0 0 0 mM_ofHeard K 112 [some (.inr (.inr 27)), some (.inl what), some (.inl best), some (.inl (nI p)), some (.inl (h.1 36 p)), some (.inl (fBo is)), none] [] h := fun q => by
          refine r_iconst (v := 0) (zdk oM_ofHeard 61 rfl) (by decide) ?_
          exact back2 is false his q.symm
        unfold fBet at yes no
        rw [hbe] at yes no
        simp only [decide_eq_true_eq, decide_eq_false_iff_not] at yes no
        refine r_istore (zdk oM_ofHeard 24 rfl) (Nat.le_of_ble_eq_true rfl) rfl ?_
        refine r_iload_n (zdk oM_ofHeard 25 rfl) rfl rfl ?_
        refine r_iconst (v := -1) (zdk oM_ofHeard 26 rfl) (by decide) ?_
        refine r_icmp_eq (tgt := 108) (zdk oM_ofHeard 27 rfl) (by decide) (fun hc => ?_) (fun hc => ?_)
        · exact yes (Or.inl hc)
        · refine r_iload_n (zdk oM_ofHeard 28 rfl) rfl rfl ?_
          refine r_bipush (v := 36) (zdk oM_ofHeard 29 rfl) (by decide) ?_
          refine r_icmp_ne (tgt := 59) (zdk oM_ofHeard 30 rfl) (by decide) (fun h36 => ?_) (fun h36 => ?_)
          · refine r_iload_n (zdk oM_ofHeard 35 rfl) rfl rfl ?_
            refine r_bipush (v := 37) (zdk oM_ofHeard 36 rfl) (by decide) ?_
            refine r_icmp_ne (tgt := 74) (zdk oM_ofHeard 37 rfl) (by decide) (fun h37 => ?_) (fun h37 => ?_)
            · rw [if_neg h36, if_neg h37] at yes no
              refine r_aload_n (zdk oM_ofHeard 42 rfl) rfl rfl ?_
              refine r_iload (zdk oM_ofHeard 43 rfl) rfl ?_
              refine r_callV1i (M' := mM_times) (zdk oM_ofHeard 44 rfl) lM_M_139 vM_times rfl rfl (Nat.le_of_ble_eq_true rfl) rfl (spM_times d h np (h.1 36 p) ha h7) ?_
              refine r_aload_n (zdk oM_ofHeard 45 rfl) rfl rfl ?_
              refine r_iload_n (zdk oM_ofHeard 46 rfl) rfl rfl ?_
              refine r_callV1i (M' := mM_times) (zdk oM_ofHeard 47 rfl) lM_M_139 vM_times rfl rfl (Nat.le_of_ble_eq_true rfl) rfl (spM_times d h np best ha h7) ?_
              refine r_icmp_gt (tgt := 108) (zdk oM_ofHeard 48 rfl) (by decide) (fun hgt => ?_) (fun hgt => ?_)
              · exact yes (Or.inr (Or.inl ((nI_ltI (by have := hT best; omega) (by have := hT (h.1 36 p); omega)).mp hgt)))
              · have hgt' : ¬ fTm (h.1 36) (h.1 27 18) best np < fTm (h.1 36) (h.1 27 18) (h.1 36 p) np := fun z => hgt ((nI_ltI (by have := hT best; omega) (by have := hT (h.1 36 p); omega)).mpr z)
                refine r_aload_n (zdk oM_ofHeard 49 rfl) rfl rfl ?_
                refine r_iload (zdk oM_ofHeard 50 rfl) rfl ?_
                refine r_callV1i (M' := mM_times) (zdk oM_ofHeard 51 rfl) lM_M_139 vM_times rfl rfl (Nat.le_of_ble_eq_true rfl) rfl (spM_times d h np (h.1 36 p) ha h7) ?_
                refine r_aload_n (zdk oM_ofHeard 52 rfl) rfl rfl ?_
                refine r_iload_n (zdk oM_ofHeard 53 rfl) rfl rfl ?_
                refine r_callV1i (M' := mM_times) (zdk oM_ofHeard 54 rfl) lM_M_139 vM_times rfl rfl (Nat.le_of_ble_eq_true rfl) rfl (spM_times d h np best ha h7) ?_
                refine r_icmp_ne (tgt := 112) (zdk oM_ofHeard 55 rfl) (by decide) (fun heq => ?_) (fun heq => ?_)
                · exact no (fun z => by
                    rcases z with z | z | z
                    · exact hc z
                    · exact hgt' z
                    · exact heq (by rw [z.1]))
                · have heq' := (nI_eq (by have := hT (h.1 36 p); omega) (by have := hT best; omega)).mp heq
                  refine r_iload (zdk oM_ofHeard 56 rfl) rfl ?_
                  refine r_iload_n (zdk oM_ofHeard 57 rfl) rfl rfl ?_
                  refine r_icmp_ge (tgt := 112) (zdk oM_ofHeard 58 rfl) (by decide) (fun hlt => ?_) (fun hlt => ?_)
                  · exact no (fun z => by
                      rcases z with z | z | z
                      · exact hc z
                      · exact hgt' z
                      · exact Int32.not_lt.mpr hlt z.2)
                  · exact yes (Or.inr (Or.inr ⟨heq', Int32.not_le.mp hlt⟩))
            · rw [if_neg h36, if_pos h37] at yes no
              refine r_iload (zdk oM_ofHeard 38 rfl) rfl ?_
              refine r_iload_n (zdk oM_ofHeard 39 rfl) rfl rfl ?_
              refine r_icmp_le (tgt := 112) (zdk oM_ofHeard 40 rfl) (by decide) (fun hle => ?_) (fun hle => ?_)
              · exact no (fun z => by
                  rcases z with z | z
                  · exact hc z
                  · exact Int32.not_lt.mpr hle z)
              · refine r_goto (tgt := 108) (zdk oM_ofHeard 41 rfl) (by decide) ?_
                exact yes (Or.inr (Int32.not_le.mp hle))
          · rw [if_pos h36] at yes no
            refine r_iload (zdk oM_ofHeard 31 rfl) rfl ?_
            refine r_iload_n (zdk oM_ofHeard 32 rfl) rfl rfl ?_
            refine r_icmp_ge (tgt := 112) (zdk oM_ofHeard 33 rfl) (by decide) (fun hge => ?_) (fun hge => ?_)
            · exact no (fun z => by
                rcases z with z | z
                · exact hc z
                · exact Int32.not_lt.mpr hge z)
            · refine r_goto (tgt := 108) (zdk oM_ofHeard 34 rfl) (by decide) ?_
              exact yes (Or.inr (Int32.not_le.mp hge))
      refine r_istore (zdk oM_ofHeard 12 rfl) (Nat.le_of_ble_eq_true rfl) rfl ?_
      refine r_aload_n (zdk oM_ofHeard 13 rfl) rfl rfl ?_
      refine r_geti (kf := 18) (zdk oM_ofHeard 14 rfl) rfl rfl (by decide) lF_M_136 rfl ?_
      refine r_iload_n (zdk oM_ofHeard 15 rfl) rfl rfl ?_
      refine r_ishr (zdk oM_ofHeard 16 rfl) ?_
      refine r_iconst (v := 1) (zdk oM_ofHeard 17 rfl) (by decide) ?_
      refine r_iand (zdk oM_ofHeard 18 rfl) ?_
      refine r_tp (y := fB (h.1 27 18) p) rfl ?_
      refine r_iconst (v := 1) (zdk oM_ofHeard 19 rfl) (by decide) ?_
      refine r_icmp_ne (tgt := 36) (zdk oM_ofHeard 20 rfl) (by decide) (fun hc => ?_) (fun hc => ?_)
      · refine r_iconst (v := 0) (zdk oM_ofHeard 23 rfl) (by decide) ?_
        exact back false (by simp [hc])
      · refine r_iconst (v := 1) (zdk oM_ofHeard 21 rfl) (by decide) ?_
        refine r_goto (tgt := 37) (zdk oM_ofHeard 22 rfl) (by decide) ?_
        exact back true (by simp [hc])
  refine zmet (by decide +kernel) (Nat.le_of_ble_eq_true rfl) ?_
  refine r_iconst (v := -1) (zdk oM_ofHeard 0 rfl) (by decide) ?_
  refine r_istore_n (zdk oM_ofHeard 1 rfl) rfl (Nat.le_of_ble_eq_true rfl) rfl ?_
  refine r_iconst (v := 0) (zdk oM_ofHeard 2 rfl) (by decide) ?_
  refine r_istore_n (zdk oM_ofHeard 3 rfl) rfl (Nat.le_of_ble_eq_true rfl) rfl ?_
  have l0 := loop np 0 (by omega)
  rw [show fOH (h.1 36) (h.1 27 18) what np 0 = -1 by unfold fOH; simp [fMin, fMax, fMost]] at l0
  exact l0
theorem lgc_ge {x y : Int64} : 0 ≤ lg_cmp x y ↔ ¬ x < y := by
  unfold lg_cmp
  by_cases h1 : y < x
  · simp only [h1, if_true]
    exact ⟨fun _ q => by have := Int64.lt_trans h1 q; exact absurd this (Int64.lt_irrefl), fun _ => by decide⟩
  · by_cases h2 : x = y
    · subst h2
      simp only [h1, if_false, if_true]
      exact ⟨fun _ => fun q => q, fun _ => by decide⟩
    · simp only [h1, h2, if_false]
      refine ⟨fun q => absurd q (by decide), fun q => absurd ?_ h2⟩
      exact Int64.le_antisymm (Int64.not_lt.mp h1) (Int64.not_lt.mp q)
theorem lgc_le {x y : Int64} : lg_cmp x y ≤ 0 ↔ ¬ y < x := by
  unfold lg_cmp
  by_cases h1 : y < x
  · simp only [h1, if_true, not_true]
    exact ⟨fun q => absurd q (by decide), fun q => q.elim⟩
  · by_cases h2 : x = y
    · subst h2
      simp only [h1, if_false, if_true, not_false_eq_true, iff_true]
      decide
    · simp only [h1, h2, if_false, not_false_eq_true, iff_true]
      decide
theorem spM_cut (d : Nat) (h : zH) (x : Int64) : zSP d 0 0 mM_cut [.inr (.inl x)] h (zI (if x < 0 then 0 else if 99 < x then 99 else x.toInt32) h) := by
  refine zmet (by decide +kernel) (Nat.le_of_ble_eq_true rfl) ?_
  refine r_lload_n (zdk oM_cut 0 rfl) rfl rfl ?_
  refine r_lconst (v := 0) (zdk oM_cut 1 rfl) (by decide) ?_
  refine r_lcmp (zdk oM_cut 2 rfl) ?_
  refine r_if_ge (tgt := 10) (zdk oM_cut 3 rfl) (by decide) (fun hc0 => ?_) (fun hc0 => ?_)
  · refine r_lload_n (zdk oM_cut 6 rfl) rfl rfl ?_
    refine r_ldc2 (zdk oM_cut 7 rfl) lD_M_131 ?_
    refine r_lcmp (zdk oM_cut 8 rfl) ?_
    refine r_if_le (tgt := 23) (zdk oM_cut 9 rfl) (by decide) (fun hc1 => ?_) (fun hc1 => ?_)
    · refine r_lload_n (zdk oM_cut 12 rfl) rfl rfl ?_
      refine r_l2i (zdk oM_cut 13 rfl) ?_
      refine r_iret (zdk oM_cut 14 rfl) rfl ?_
      refine zIi ?_
      simp only [lgc_ge, lgc_le, Decidable.not_not] at *
      first | rw [if_neg hc0, if_neg hc1] | rw [if_neg hc0, if_pos hc1] | rw [if_pos hc0]
    · refine r_bipush (v := 99) (zdk oM_cut 10 rfl) (by decide) ?_
      refine r_goto (tgt := 25) (zdk oM_cut 11 rfl) (by decide) ?_
      refine r_iret (zdk oM_cut 14 rfl) rfl ?_
      refine zIi ?_
      simp only [lgc_ge, lgc_le, Decidable.not_not] at *
      first | rw [if_neg hc0, if_neg hc1] | rw [if_neg hc0, if_pos hc1] | rw [if_pos hc0]
  · refine r_iconst (v := 0) (zdk oM_cut 4 rfl) (by decide) ?_
    refine r_goto (tgt := 25) (zdk oM_cut 5 rfl) (by decide) ?_
    refine r_iret (zdk oM_cut 14 rfl) rfl ?_
    refine zIi ?_
    simp only [lgc_ge, lgc_le, Decidable.not_not] at *
    first | rw [if_neg hc0, if_neg hc1] | rw [if_neg hc0, if_pos hc1] | rw [if_pos hc0]
theorem fParts_2 {w : Int32} (h : fParts w = 2) : ∃ k, 20 ≤ k ∧ k ≤ 28 ∧ w = nI k := by
  unfold fParts at h
  split at h
  · rename_i q
    refine ⟨w.toInt.toNat, by omega, by omega, ?_⟩
    apply Int32.toInt_inj.mp
    rw [nI_toInt (by omega)]
    omega
  · split at h
    · omega
    · split at h <;> omega
theorem fParts_1 {w : Int32} (h : fParts w = 1) : w = 29 ∨ w = 40 ∨ w = 41 := by
  unfold fParts at h
  simp only [← Int32.toInt_inj, Int32.reduceToInt]
  split at h
  · omega
  · split at h
    · omega
    · split at h
      · assumption
      · omega
theorem cutAdd {i j : Nat} (hi : i ≤ 99) (hj : j ≤ 99) : (if (nI i).toInt64 + (nI j).toInt64 < 0 then 0 else if 99 < (nI i).toInt64 + (nI j).toInt64 then 99 else ((nI i).toInt64 + (nI j).toInt64).toInt32) = nI (min (i + j) 99) := by
  rw [nI_l (by omega), nI_l (by omega), lN_add, show (0 : Int64) = lN 0 from rfl, show (99 : Int64) = lN 99 from rfl, if_neg (fun q => by have := (lN_lt (by omega) (by decide)).mp q; omega)]
  by_cases q : 99 < i + j
  · rw [if_pos ((lN_lt (by decide) (by omega)).mpr q), Nat.min_eq_right (by omega)]; rfl
  · rw [if_neg (fun z => q ((lN_lt (by decide) (by omega)).mp z)), Nat.min_eq_left (by omega), lN_i]
theorem cutMul {i j : Nat} (hi : i ≤ 99) (hj : j ≤ 99) : (if (nI i).toInt64 * (nI j).toInt64 < 0 then 0 else if 99 < (nI i).toInt64 * (nI j).toInt64 then 99 else ((nI i).toInt64 * (nI j).toInt64).toInt32) = nI (min (i * j) 99) := by
  have hm : i * j ≤ 99 * 99 := Nat.mul_le_mul hi hj
  rw [nI_l (by omega), nI_l (by omega), lN_mul, show (0 : Int64) = lN 0 from rfl, show (99 : Int64) = lN 99 from rfl, if_neg (fun q => by have := (lN_lt (by omega) (by decide)).mp q; omega)]
  by_cases q : 99 < i * j
  · rw [if_pos ((lN_lt (by decide) (by omega)).mpr q), Nat.min_eq_right (by omega)]; rfl
  · rw [if_neg (fun z => q ((lN_lt (by decide) (by omega)).mp z)), Nat.min_eq_left (by omega), lN_i]
theorem cutSub {i j : Nat} (hi : i ≤ 99) (hj : j ≤ 99) : (if (nI i).toInt64 - (nI j).toInt64 < 0 then 0 else if 99 < (nI i).toInt64 - (nI j).toInt64 then 99 else ((nI i).toInt64 - (nI j).toInt64).toInt32) = nI (i - j) := by
  rw [nI_l (by omega), nI_l (by omega)]
  by_cases q : i < j
  · have key : ∀ a : Fin 100, ∀ b : Fin 100, a.val < b.val → lN a.val - lN b.val < 0 := by decide +kernel
    rw [if_pos (key ⟨i, by omega⟩ ⟨j, by omega⟩ q), show i - j = 0 by omega]
    rfl
  · rw [lN_sub (by omega), show (0 : Int64) = lN 0 from rfl, show (99 : Int64) = lN 99 from rfl, if_neg (fun z => by have := (lN_lt (by omega) (by decide)).mp z; omega), if_neg (fun z => by have := (lN_lt (by decide) (by omega)).mp z; omega), lN_i]
theorem spM_worked2 (d : Nat) (h : zH) (w : Int32) (i j : Nat) (hi : i ≤ 99) (hj : j ≤ 99) (hp : fParts w = 2) : zSP (d + 1) 0 0 mM_worked [.inr (.inr 27), .inl w, .inl (nI i), .inl (nI j)] h (zI (f2 w (nI i) (nI j)) h) := by
  obtain ⟨k, k1, k2, rfl⟩ := fParts_2 hp
  have hk : k = 20 ∨ k = 21 ∨ k = 22 ∨ k = 23 ∨ k = 24 ∨ k = 25 ∨ k = 26 ∨ k = 27 ∨ k = 28 := by omega
  have hf := f2_nat (w := nI k) hi hj
  rcases hk with rfl | rfl | rfl | rfl | rfl | rfl | rfl | rfl | rfl
  · rw [show g2 (nI 20) i j = min (i + j) 99 from rfl] at hf
    rw [hf]
    refine zmet (by decide +kernel) (Nat.le_of_ble_eq_true rfl) ?_
    refine r_iload_n (zdk oM_worked 0 rfl) rfl rfl ?_
    refine r_tabIn (off := 99) (tgt := 100) (zdk oM_worked 1 rfl) (by decide) (by decide) rfl (by decide) ?_
    refine r_iload_n (zdk oM_worked 2 rfl) rfl rfl ?_
    refine r_i2l (zdk oM_worked 3 rfl) ?_
    refine r_iload_n (zdk oM_worked 4 rfl) rfl rfl ?_
    refine r_i2l (zdk oM_worked 5 rfl) ?_
    refine r_ladd (zdk oM_worked 6 rfl) ?_
    refine r_callS1i (M' := mM_cut) (zdk oM_worked 7 rfl) lM_M_149 sM_cut (Nat.le_of_ble_eq_true rfl) rfl (spM_cut d h _) ?_
    rw [cutAdd hi hj]
    refine r_iret (zdk oM_worked 8 rfl) rfl ?_
    exact zIi rfl
  · rw [show g2 (nI 21) i j = i - j from rfl] at hf
    rw [hf]
    refine zmet (by decide +kernel) (Nat.le_of_ble_eq_true rfl) ?_
    refine r_iload_n (zdk oM_worked 0 rfl) rfl rfl ?_
    refine r_tabIn (off := 108) (tgt := 109) (zdk oM_worked 1 rfl) (by decide) (by decide) rfl (by decide) ?_
    refine r_iload_n (zdk oM_worked 9 rfl) rfl rfl ?_
    refine r_i2l (zdk oM_worked 10 rfl) ?_
    refine r_iload_n (zdk oM_worked 11 rfl) rfl rfl ?_
    refine r_i2l (zdk oM_worked 12 rfl) ?_
    refine r_lsub (zdk oM_worked 13 rfl) ?_
    refine r_callS1i (M' := mM_cut) (zdk oM_worked 14 rfl) lM_M_149 sM_cut (Nat.le_of_ble_eq_true rfl) rfl (spM_cut d h _) ?_
    rw [cutSub hi hj]
    refine r_iret (zdk oM_worked 15 rfl) rfl ?_
    exact zIi rfl
  · rw [show g2 (nI 22) i j = min (i * j) 99 from rfl] at hf
    rw [hf]
    refine zmet (by decide +kernel) (Nat.le_of_ble_eq_true rfl) ?_
    refine r_iload_n (zdk oM_worked 0 rfl) rfl rfl ?_
    refine r_tabIn (off := 117) (tgt := 118) (zdk oM_worked 1 rfl) (by decide) (by decide) rfl (by decide) ?_
    refine r_iload_n (zdk oM_worked 16 rfl) rfl rfl ?_
    refine r_i2l (zdk oM_worked 17 rfl) ?_
    refine r_iload_n (zdk oM_worked 18 rfl) rfl rfl ?_
    refine r_i2l (zdk oM_worked 19 rfl) ?_
    refine r_lmul (zdk oM_worked 20 rfl) ?_
    refine r_callS1i (M' := mM_cut) (zdk oM_worked 21 rfl) lM_M_149 sM_cut (Nat.le_of_ble_eq_true rfl) rfl (spM_cut d h _) ?_
    rw [cutMul hi hj]
    refine r_iret (zdk oM_worked 22 rfl) rfl ?_
    exact zIi rfl
  · clear hf
    refine zmet (by decide +kernel) (Nat.le_of_ble_eq_true rfl) ?_
    refine r_iload_n (zdk oM_worked 0 rfl) rfl rfl ?_
    refine r_tabIn (off := 126) (tgt := 127) (zdk oM_worked 1 rfl) (by decide) (by decide) rfl (by decide) ?_
    refine r_iload_n (zdk oM_worked 23 rfl) rfl rfl ?_
    refine r_if_ne (tgt := 135) (zdk oM_worked 24 rfl) (by decide) (fun hc0 => ?_) (fun hc0 => ?_)
    · refine r_iload_n (zdk oM_worked 27 rfl) rfl rfl ?_
      refine r_iload_n (zdk oM_worked 28 rfl) rfl rfl ?_
      refine r_idiv (zdk oM_worked 29 rfl) (by assumption) ?_
      refine r_iret (zdk oM_worked 30 rfl) rfl ?_
      refine zIi ?_
      show _ = (if nI j = 0 then 0 else nI i / nI j)
      simp_all
    · refine r_iconst (v := 0) (zdk oM_worked 25 rfl) (by decide) ?_
      refine r_goto (tgt := 138) (zdk oM_worked 26 rfl) (by decide) ?_
      refine r_iret (zdk oM_worked 30 rfl) rfl ?_
      refine zIi ?_
      show _ = (if nI j = 0 then 0 else nI i / nI j)
      simp_all
  · clear hf
    refine zmet (by decide +kernel) (Nat.le_of_ble_eq_true rfl) ?_
    refine r_iload_n (zdk oM_worked 0 rfl) rfl rfl ?_
    refine r_tabIn (off := 138) (tgt := 139) (zdk oM_worked 1 rfl) (by decide) (by decide) rfl (by decide) ?_
    refine r_iload_n (zdk oM_worked 31 rfl) rfl rfl ?_
    refine r_if_ne (tgt := 147) (zdk oM_worked 32 rfl) (by decide) (fun hc0 => ?_) (fun hc0 => ?_)
    · refine r_iload_n (zdk oM_worked 35 rfl) rfl rfl ?_
      refine r_iload_n (zdk oM_worked 36 rfl) rfl rfl ?_
      refine r_irem (zdk oM_worked 37 rfl) (by assumption) ?_
      refine r_iret (zdk oM_worked 38 rfl) rfl ?_
      refine zIi ?_
      show _ = (if nI j = 0 then 0 else nI i - nI i / nI j * nI j)
      simp_all
    · refine r_iconst (v := 0) (zdk oM_worked 33 rfl) (by decide) ?_
      refine r_goto (tgt := 150) (zdk oM_worked 34 rfl) (by decide) ?_
      refine r_iret (zdk oM_worked 38 rfl) rfl ?_
      refine zIi ?_
      show _ = (if nI j = 0 then 0 else nI i - nI i / nI j * nI j)
      simp_all
  · clear hf
    refine zmet (by decide +kernel) (Nat.le_of_ble_eq_true rfl) ?_
    refine r_iload_n (zdk oM_worked 0 rfl) rfl rfl ?_
    refine r_tabIn (off := 150) (tgt := 151) (zdk oM_worked 1 rfl) (by decide) (by decide) rfl (by decide) ?_
    refine r_iload_n (zdk oM_worked 39 rfl) rfl rfl ?_
    refine r_iload_n (zdk oM_worked 40 rfl) rfl rfl ?_
    refine r_icmp_ne (tgt := 160) (zdk oM_worked 41 rfl) (by decide) (fun hc0 => ?_) (fun hc0 => ?_)
    · refine r_iconst (v := 0) (zdk oM_worked 44 rfl) (by decide) ?_
      refine r_iret (zdk oM_worked 45 rfl) rfl ?_
      refine zIi ?_
      show _ = fBo (decide (nI i = nI j))
      simp_all [fBo]
    · refine r_iconst (v := 1) (zdk oM_worked 42 rfl) (by decide) ?_
      refine r_goto (tgt := 161) (zdk oM_worked 43 rfl) (by decide) ?_
      refine r_iret (zdk oM_worked 45 rfl) rfl ?_
      refine zIi ?_
      show _ = fBo (decide (nI i = nI j))
      simp_all [fBo]
  · clear hf
    refine zmet (by decide +kernel) (Nat.le_of_ble_eq_true rfl) ?_
    refine r_iload_n (zdk oM_worked 0 rfl) rfl rfl ?_
    refine r_tabIn (off := 161) (tgt := 162) (zdk oM_worked 1 rfl) (by decide) (by decide) rfl (by decide) ?_
    refine r_iload_n (zdk oM_worked 46 rfl) rfl rfl ?_
    refine r_iload_n (zdk oM_worked 47 rfl) rfl rfl ?_
    refine r_icmp_ge (tgt := 171) (zdk oM_worked 48 rfl) (by decide) (fun hc0 => ?_) (fun hc0 => ?_)
    · refine r_iconst (v := 0) (zdk oM_worked 51 rfl) (by decide) ?_
      refine r_iret (zdk oM_worked 52 rfl) rfl ?_
      refine zIi ?_
      show _ = fBo (decide (nI i < nI j))
      simp_all [fBo]
    · refine r_iconst (v := 1) (zdk oM_worked 49 rfl) (by decide) ?_
      refine r_goto (tgt := 172) (zdk oM_worked 50 rfl) (by decide) ?_
      refine r_iret (zdk oM_worked 52 rfl) rfl ?_
      refine zIi ?_
      show _ = fBo (decide (nI i < nI j))
      simp_all [fBo]
  · clear hf
    refine zmet (by decide +kernel) (Nat.le_of_ble_eq_true rfl) ?_
    refine r_iload_n (zdk oM_worked 0 rfl) rfl rfl ?_
    refine r_tabIn (off := 172) (tgt := 173) (zdk oM_worked 1 rfl) (by decide) (by decide) rfl (by decide) ?_
    refine r_iload_n (zdk oM_worked 53 rfl) rfl rfl ?_
    refine r_if_eq (tgt := 185) (zdk oM_worked 54 rfl) (by decide) (fun hc0 => ?_) (fun hc0 => ?_)
    · refine r_iconst (v := 0) (zdk oM_worked 59 rfl) (by decide) ?_
      refine r_iret (zdk oM_worked 60 rfl) rfl ?_
      refine zIi ?_
      show _ = fBo (decide (¬ nI i = 0 ∧ ¬ nI j = 0))
      simp_all [fBo]
    · refine r_iload_n (zdk oM_worked 55 rfl) rfl rfl ?_
      refine r_if_eq (tgt := 185) (zdk oM_worked 56 rfl) (by decide) (fun hc1 => ?_) (fun hc1 => ?_)
      · refine r_iconst (v := 0) (zdk oM_worked 59 rfl) (by decide) ?_
        refine r_iret (zdk oM_worked 60 rfl) rfl ?_
        refine zIi ?_
        show _ = fBo (decide (¬ nI i = 0 ∧ ¬ nI j = 0))
        simp_all [fBo]
      · refine r_iconst (v := 1) (zdk oM_worked 57 rfl) (by decide) ?_
        refine r_goto (tgt := 186) (zdk oM_worked 58 rfl) (by decide) ?_
        refine r_iret (zdk oM_worked 60 rfl) rfl ?_
        refine zIi ?_
        show _ = fBo (decide (¬ nI i = 0 ∧ ¬ nI j = 0))
        simp_all [fBo]
  · clear hf
    refine zmet (by decide +kernel) (Nat.le_of_ble_eq_true rfl) ?_
    refine r_iload_n (zdk oM_worked 0 rfl) rfl rfl ?_
    refine r_tabIn (off := 186) (tgt := 187) (zdk oM_worked 1 rfl) (by decide) (by decide) rfl (by decide) ?_
    refine r_iload_n (zdk oM_worked 61 rfl) rfl rfl ?_
    refine r_if_ne (tgt := 195) (zdk oM_worked 62 rfl) (by decide) (fun hc0 => ?_) (fun hc0 => ?_)
    · refine r_iconst (v := 1) (zdk oM_worked 65 rfl) (by decide) ?_
      refine r_goto (tgt := 200) (zdk oM_worked 66 rfl) (by decide) ?_
      refine r_iret (zdk oM_worked 68 rfl) rfl ?_
      refine zIi ?_
      show _ = fBo (decide (¬ nI i = 0 ∨ ¬ nI j = 0))
      simp_all [fBo]
    · refine r_iload_n (zdk oM_worked 63 rfl) rfl rfl ?_
      refine r_if_eq (tgt := 199) (zdk oM_worked 64 rfl) (by decide) (fun hc1 => ?_) (fun hc1 => ?_)
      · refine r_iconst (v := 0) (zdk oM_worked 67 rfl) (by decide) ?_
        refine r_iret (zdk oM_worked 68 rfl) rfl ?_
        refine zIi ?_
        show _ = fBo (decide (¬ nI i = 0 ∨ ¬ nI j = 0))
        simp_all [fBo]
      · refine r_iconst (v := 1) (zdk oM_worked 65 rfl) (by decide) ?_
        refine r_goto (tgt := 200) (zdk oM_worked 66 rfl) (by decide) ?_
        refine r_iret (zdk oM_worked 68 rfl) rfl ?_
        refine zIi ?_
        show _ = fBo (decide (¬ nI i = 0 ∨ ¬ nI j = 0))
        simp_all [fBo]
theorem spM_worked1 (d : Nat) (h : zH) (w b : Int32) (np i : Nat) (ha : h.1 27 16 = nI np) (h7 : np ≤ 7) (hi : i ≤ 99) (hp : fParts w = 1) : zSP (d + 1) 0 0 mM_worked [.inr (.inr 27), .inl w, .inl (nI i), .inl b] h (zI (c1P np (h.1 36) (h.1 27 18) w (nI i)) h) := by
  have ei : (nI i).toNatClampNeg = i := nI_clamp (by omega)
  rcases fParts_1 hp with rfl | rfl | rfl
  · refine zmet (by decide +kernel) (Nat.le_of_ble_eq_true rfl) ?_
    refine r_iload_n (zdk oM_worked 0 rfl) rfl rfl ?_
    refine r_tabIn (off := 200) (tgt := 201) (zdk oM_worked 1 rfl) (by decide) (by decide) rfl (by decide) ?_
    refine r_iload_n (zdk oM_worked 69 rfl) rfl rfl ?_
    refine r_if_ne (tgt := 209) (zdk oM_worked 70 rfl) (by decide) (fun hc0 => ?_) (fun hc0 => ?_)
    · refine r_iconst (v := 0) (zdk oM_worked 73 rfl) (by decide) ?_
      refine r_iret (zdk oM_worked 74 rfl) rfl ?_
      refine zIi ?_
      show _ = (if nI i = 0 then 1 else 0)
      simp_all
    · refine r_iconst (v := 1) (zdk oM_worked 71 rfl) (by decide) ?_
      refine r_goto (tgt := 210) (zdk oM_worked 72 rfl) (by decide) ?_
      refine r_iret (zdk oM_worked 74 rfl) rfl ?_
      refine zIi ?_
      show _ = (if nI i = 0 then 1 else 0)
      simp_all
  · refine zmet (by decide +kernel) (Nat.le_of_ble_eq_true rfl) ?_
    refine r_iload_n (zdk oM_worked 0 rfl) rfl rfl ?_
    refine r_tabIn (off := 210) (tgt := 211) (zdk oM_worked 1 rfl) (by decide) (by decide) rfl (by decide) ?_
    refine r_aload_n (zdk oM_worked 75 rfl) rfl rfl ?_
    refine r_iload_n (zdk oM_worked 76 rfl) rfl rfl ?_
    refine r_callV1i (M' := mM_times) (zdk oM_worked 77 rfl) lM_M_139 vM_times rfl rfl (Nat.le_of_ble_eq_true rfl) rfl (spM_times d h np (nI i) ha h7) ?_
    refine r_iret (zdk oM_worked 78 rfl) rfl ?_
    exact zIi rfl
  · suffices main : ∀ K : zR → zH → Prop, (∀ x, x = (if i < np ∧ fB (h.1 27 18) i = 1 then h.1 36 i else 0) → K (.inl (some (.inl x))) h) → zSP (d + 1) 0 0 mM_worked [.inr (.inr 27), .inl 41, .inl (nI i), .inl b] h K from main _ (fun x hx => zIi (by rw [hx]; show _ = (if (nI i).toNatClampNeg < np ∧ fB (h.1 27 18) (nI i).toNatClampNeg = 1 then h.1 36 (nI i).toNatClampNeg else 0); rw [ei]))
    intro K hK
    refine zmet (by decide +kernel) (Nat.le_of_ble_eq_true rfl) ?_
    refine r_iload_n (zdk oM_worked 0 rfl) rfl rfl ?_
    refine r_tabOut (tgt := 217) (zdk oM_worked 1 rfl) (by decide) (by decide) ?_
    refine r_iload_n (zdk oM_worked 79 rfl) rfl rfl ?_
    refine r_aload_n (zdk oM_worked 80 rfl) rfl rfl ?_
    refine r_geti (kf := 16) (zdk oM_worked 81 rfl) rfl rfl (by decide) lF_M_133 rfl ?_
    rw [ha]
    refine r_icmp_ge (tgt := 246) (zdk oM_worked 82 rfl) (by decide) (fun hc => ?_) (fun hc => ?_)
    · have hn : np ≤ i := (nI_leI (by omega) (by omega)).mp hc
      refine r_iconst (v := 0) (zdk oM_worked 96 rfl) (by decide) ?_
      refine r_iret (zdk oM_worked 97 rfl) rfl ?_
      exact hK _ (by rw [if_neg (by omega)])
    · have hn : i < np := Nat.not_le.mp (fun q => hc ((nI_leI (by omega) (by omega)).mpr q))
      refine r_aload_n (zdk oM_worked 83 rfl) rfl rfl ?_
      refine r_geti (kf := 18) (zdk oM_worked 84 rfl) rfl rfl (by decide) lF_M_136 rfl ?_
      refine r_iload_n (zdk oM_worked 85 rfl) rfl rfl ?_
      refine r_ishr (zdk oM_worked 86 rfl) ?_
      refine r_iconst (v := 1) (zdk oM_worked 87 rfl) (by decide) ?_
      refine r_iand (zdk oM_worked 88 rfl) ?_
      refine r_tp (y := fB (h.1 27 18) i) rfl ?_
      refine r_iconst (v := 1) (zdk oM_worked 89 rfl) (by decide) ?_
      refine r_icmp_ne (tgt := 246) (zdk oM_worked 90 rfl) (by decide) (fun hc2 => ?_) (fun hc2 => ?_)
      · refine r_iconst (v := 0) (zdk oM_worked 96 rfl) (by decide) ?_
        refine r_iret (zdk oM_worked 97 rfl) rfl ?_
        exact hK _ (by rw [if_neg (fun z => hc2 z.2)])
      · refine r_aload_n (zdk oM_worked 91 rfl) rfl rfl ?_
        refine r_getr (kf := 15) (zdk oM_worked 92 rfl) rfl rfl (by decide) lF_M_34 rfl ?_
        refine r_iload_n (zdk oM_worked 93 rfl) rfl rfl ?_
        refine r_iald (zdk oM_worked 94 rfl) rfl (vp_in_nI (n := i) (by omega) (by decide)) ?_
        refine r_goto (tgt := 247) (zdk oM_worked 95 rfl) (by decide) ?_
        refine r_iret (zdk oM_worked 97 rfl) rfl ?_
        rw [ei]
        exact hK _ (by rw [if_pos ⟨hn, hc2⟩])
