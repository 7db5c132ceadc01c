/-! what must not be -/
def vDi (D : Nat → Nat) (b : Bool) (p : Nat) : Nat → Bool
  | 0 => b
  | i + 1 => vDi D b p i || (decide (0 < D p) && decide (0 < D i) && !decide (D p = D i))
def vDf (D : Nat → Nat) : Nat → Bool
  | 0 => false
  | p + 1 => vDi D (vDf D p) p p
def vNo (D : Nat → Nat) (g : Nat) : Nat → Bool
  | 0 => false
  | p + 1 => vNo D g p || (decide (0 < D p) && (decide (3 < D p) || decide (g / 2 ^ (D p - 1) % 2 = 0)))
def vCh (D E : Nat → Nat) : Nat → Bool
  | 0 => false
  | p + 1 => vCh D E p || (decide (0 < E p) && !decide (D p = E p))
def xVi (D E : Nat → Nat) (g np : Nat) : Nat := if vDf D np = true then 1 else if vNo D g np = true then 2 else if vCh D E np = true then 3 else 0
theorem nI_z {x : Nat} (h : x = 0) : nI x ≤ 0 := by rw [h]; decide
theorem nI_nz {x : Nat} (h : 0 < x) (hx : x < 2 ^ 31) : ¬ nI x ≤ 0 := nI_ge (a := 0) (b := x) h hx
theorem vBit {g k : Nat} (hg : g < 8) (hk : k < 3) : (nI g >>> (nI k &&& 31)) &&& 1 = nI (g / 2 ^ k % 2) := by
  have key : ∀ g : Fin 8, ∀ k : Fin 3, (nI g.val >>> (nI k.val &&& 31)) &&& 1 = nI (g.val / 2 ^ k.val % 2) := by decide +kernel
  exact key ⟨g, hg⟩ ⟨k, hk⟩
theorem spM_violation (d : Nat) (h : zH) (np vars g g0 : Nat) (f D : Nat → Nat) (k8 : h.1 27 8 = nI vars) (hn : np ≤ 3) (v1 : 1 ≤ vars) (v5 : vars ≤ 5) (hg : g < 8) (hg0 : g0 < 8) (hf : ∀ j, j < np * vars → f j < 16) (hD : ∀ p, p < np → D p < 16 ∧ h.1 34 (5 * p) = nI (D p)) :
    zSP d 0 0 mM_violation [.inr (.inr 27), .inl (nI np), .inr (.inl (nJ (xRc f g0 (np * vars)))), .inl (nI g)] h (zI (nI (xVi D (fun p => f (p * vars)) g np)) h) := by
  suffices main : ∀ K : zR → zH → Prop, K (.inl (some (.inl (nI (xVi D (fun p => f (p * vars)) g np))))) h → zSP d 0 0 mM_violation [.inr (.inr 27), .inl (nI np), .inr (.inl (nJ (xRc f g0 (np * vars)))), .inl (nI g)] h K from main _ (zIi rfl)
  intro K hK
  have hT : np * vars ≤ 15 := Nat.le_trans (Nat.mul_le_mul hn v5) (by decide)
  have loop : ∀ (m p : Nat), p + m = np → zMC false d 0 0 0 0 mM_violation K 12 [some (.inr (.inr 27)), some (.inl (nI np)), some (.inr (.inl (nJ (xRc f g0 (np * vars))))), none, some (.inl (nI g)), some (.inl (fBo (vDf D p))), some (.inl (fBo (vNo D g p))), some (.inl (fBo (vCh D (fun p => f (p * vars)) p))), some (.inl (nI p)), none, none, none] [] h := by
    intro m
    induction m with
    | zero =>
      intro p hp
      have e : p = np := by omega
      subst e
      refine r_iload (zdk oM_violation 8 rfl) rfl ?_
      refine r_iload_n (zdk oM_violation 9 rfl) rfl rfl ?_
      refine r_icmp_ge (tgt := 177) (zdk oM_violation 10 rfl) (by decide) (fun _ => ?_) (fun q9 => absurd ((Int32.le_refl (nI p))) q9)
      unfold xVi at hK
      refine r_iload (zdk oM_violation 98 rfl) rfl ?_
      cases h1 : vDf D p with
      | true =>
        refine r_if_eq (tgt := 186) (zdk oM_violation 99 rfl) (by decide) (fun q9 => absurd q9 ((fBo_t))) (fun _ => ?_)
        refine r_iconst (v := 1) (zdk oM_violation 100 rfl) (by decide) ?_
        refine r_goto (tgt := 205) (zdk oM_violation 101 rfl) (by decide) ?_
        refine r_iret (zdk oM_violation 111 rfl) rfl ?_
        rw [if_pos h1] at hK
        exact hK
      | false =>
        rw [if_neg (by rw [h1]; decide)] at hK
        refine r_if_eq (tgt := 186) (zdk oM_violation 99 rfl) (by decide) (fun _ => ?_) (fun q9 => absurd ((rfl)) q9)
        refine r_iload (zdk oM_violation 102 rfl) rfl ?_
        cases h2 : vNo D g p with
        | true =>
          refine r_if_eq (tgt := 195) (zdk oM_violation 103 rfl) (by decide) (fun q9 => absurd q9 ((fBo_t))) (fun _ => ?_)
          refine r_iconst (v := 2) (zdk oM_violation 104 rfl) (by decide) ?_
          refine r_goto (tgt := 205) (zdk oM_violation 105 rfl) (by decide) ?_
          refine r_iret (zdk oM_violation 111 rfl) rfl ?_
          rw [if_pos h2] at hK
          exact hK
        | false =>
          rw [if_neg (by rw [h2]; decide)] at hK
          refine r_if_eq (tgt := 195) (zdk oM_violation 103 rfl) (by decide) (fun _ => ?_) (fun q9 => absurd ((rfl)) q9)
          refine r_iload (zdk oM_violation 106 rfl) rfl ?_
          cases h3 : vCh D (fun p => f (p * vars)) p with
          | true =>
            refine r_if_eq (tgt := 204) (zdk oM_violation 107 rfl) (by decide) (fun q9 => absurd q9 ((fBo_t))) (fun _ => ?_)
            refine r_iconst (v := 3) (zdk oM_violation 108 rfl) (by decide) ?_
            refine r_goto (tgt := 205) (zdk oM_violation 109 rfl) (by decide) ?_
            refine r_iret (zdk oM_violation 111 rfl) rfl ?_
            rw [if_pos h3] at hK
            exact hK
          | false =>
            rw [if_neg (by rw [h3]; decide)] at hK
            refine r_if_eq (tgt := 204) (zdk oM_violation 107 rfl) (by decide) (fun _ => ?_) (fun q9 => absurd ((rfl)) q9)
            refine r_iconst (v := 0) (zdk oM_violation 110 rfl) (by decide) ?_
            refine r_iret (zdk oM_violation 111 rfl) rfl ?_
            exact hK
    | succ m ih =>
      intro p hp
      obtain ⟨dp, ed⟩ := hD p (by omega)
      have hE : f (p * vars) < 16 := hf _ (by have := xpv (np := np) (vars := vars) (p := p) (v := 0) (by omega) (by omega); omega)
      -- the last part: what is changed
      have chg : zMC false d 0 0 0 0 mM_violation K 147 [some (.inr (.inr 27)), some (.inl (nI np)), some (.inr (.inl (nJ (xRc f g0 (np * vars))))), none, some (.inl (nI g)), some (.inl (fBo (vDf D (p + 1)))), some (.inl (fBo (vNo D g (p + 1)))), some (.inl (fBo (vCh D (fun p => f (p * vars)) p))), some (.inl (nI p)), some (.inl (nI (D p))), some (.inl (nI (f (p * vars)))), none] [] h := by
        have fin : zMC false d 0 0 0 0 mM_violation K 169 [some (.inr (.inr 27)), some (.inl (nI np)), some (.inr (.inl (nJ (xRc f g0 (np * vars))))), none, some (.inl (nI g)), some (.inl (fBo (vDf D (p + 1)))), some (.inl (fBo (vNo D g (p + 1)))), some (.inl (fBo (vCh D (fun p => f (p * vars)) p))), some (.inl (nI p)), some (.inl (nI (D p))), some (.inl (nI (f (p * vars)))), none] [.inl (fBo (vCh D (fun p => f (p * vars)) (p + 1)))] h := by
          refine r_istore (zdk oM_violation 95 rfl) (Nat.le_of_ble_eq_true rfl) rfl ?_
          first | refine r_iinc (zdk oM_violation 96 rfl) rfl (zinc _) rfl ?_ | refine r_iinc (zdk oM_violation 96 rfl) rfl rfl rfl ?_
          refine r_goto (tgt := 12) (zdk oM_violation 97 rfl) (by decide) ?_
          refine r_mask [true, true, true, true, true, true, true, true, true, false, false, false] rfl rfl ?_
          exact ih (p + 1) (by omega)
        rw [show vCh D (fun p => f (p * vars)) (p + 1) = (vCh D (fun p => f (p * vars)) p || (decide (0 < f (p * vars)) && !decide (D p = f (p * vars)))) from rfl] at fin
        refine r_iload (zdk oM_violation 85 rfl) rfl ?_
        cases h3 : vCh D (fun p => f (p * vars)) p with
        | true =>
          rw [h3] at fin
          refine r_if_ne (tgt := 164) (zdk oM_violation 86 rfl) (by decide) (fun _ => ?_) (fun q9 => absurd q9 ((fBo_t)))
          refine r_iconst (v := 1) (zdk oM_violation 92 rfl) (by decide) ?_
          refine r_goto (tgt := 169) (zdk oM_violation 93 rfl) (by decide) ?_
          exact fin
        | false =>
          rw [h3] at fin
          refine r_if_ne (tgt := 164) (zdk oM_violation 86 rfl) (by decide) (fun q9 => absurd ((rfl)) q9) (fun _ => ?_)
          refine r_iload (zdk oM_violation 87 rfl) rfl ?_
          by_cases q1 : f (p * vars) = 0
          · refine r_if_le (tgt := 168) (zdk oM_violation 88 rfl) (by decide) (fun _ => ?_) (fun q9 => absurd ((nI_z q1)) q9)
            refine r_iconst (v := 0) (zdk oM_violation 94 rfl) (by decide) ?_
            rw [show (false || (decide (0 < f (p * vars)) && !decide (D p = f (p * vars)))) = false by simp [q1]] at fin
            exact fin
          · refine r_if_le (tgt := 168) (zdk oM_violation 88 rfl) (by decide) (fun q9 => absurd q9 ((nI_nz (Nat.pos_of_ne_zero q1) (by omega)))) (fun _ => ?_)
            refine r_iload (zdk oM_violation 89 rfl) rfl ?_
            refine r_iload (zdk oM_violation 90 rfl) rfl ?_
            by_cases q2 : D p = f (p * vars)
            · refine r_icmp_eq (tgt := 168) (zdk oM_violation 91 rfl) (by decide) (fun _ => ?_) (fun q9 => absurd ((show nI (D p) = nI (f (p * vars)) by rw [q2])) q9)
              refine r_iconst (v := 0) (zdk oM_violation 94 rfl) (by decide) ?_
              rw [show (false || (decide (0 < f (p * vars)) && !decide (D p = f (p * vars)))) = false by simp [q2]] at fin
              exact fin
            · refine r_icmp_eq (tgt := 168) (zdk oM_violation 91 rfl) (by decide) (fun q9 => absurd q9 ((fun z => q2 (nI_inj (by omega) (by omega) z)))) (fun _ => ?_)
              refine r_iconst (v := 1) (zdk oM_violation 92 rfl) (by decide) ?_
              refine r_goto (tgt := 169) (zdk oM_violation 93 rfl) (by decide) ?_
              rw [show (false || (decide (0 < f (p * vars)) && !decide (D p = f (p * vars)))) = true by simp [q2]; omega] at fin
              exact fin
      -- the middle part: no input
      have noi : zMC false d 0 0 0 0 mM_violation K 110 [some (.inr (.inr 27)), some (.inl (nI np)), some (.inr (.inl (nJ (xRc f g0 (np * vars))))), none, some (.inl (nI g)), some (.inl (fBo (vDf D (p + 1)))), some (.inl (fBo (vNo D g p))), some (.inl (fBo (vCh D (fun p => f (p * vars)) p))), some (.inl (nI p)), some (.inl (nI (D p))), some (.inl (nI (f (p * vars)))), some (.inl (nI p))] [] h := by
        have fin : zMC false d 0 0 0 0 mM_violation K 145 [some (.inr (.inr 27)), some (.inl (nI np)), some (.inr (.inl (nJ (xRc f g0 (np * vars))))), none, some (.inl (nI g)), some (.inl (fBo (vDf D (p + 1)))), some (.inl (fBo (vNo D g p))), some (.inl (fBo (vCh D (fun p => f (p * vars)) p))), some (.inl (nI p)), some (.inl (nI (D p))), some (.inl (nI (f (p * vars)))), some (.inl (nI p))] [.inl (fBo (vNo D g (p + 1)))] h := by
          refine r_istore (zdk oM_violation 84 rfl) (Nat.le_of_ble_eq_true rfl) rfl ?_
          refine r_mask [true, true, true, true, true, true, true, true, true, true, true, false] rfl rfl ?_
          exact chg
        rw [show vNo D g (p + 1) = (vNo D g p || (decide (0 < D p) && (decide (3 < D p) || decide (g / 2 ^ (D p - 1) % 2 = 0)))) from rfl] at fin
        refine r_iload (zdk oM_violation 64 rfl) rfl ?_
        cases h3 : vNo D g p with
        | true =>
          rw [h3] at fin
          refine r_if_ne (tgt := 140) (zdk oM_violation 65 rfl) (by decide) (fun _ => ?_) (fun q9 => absurd q9 ((fBo_t)))
          refine r_iconst (v := 1) (zdk oM_violation 81 rfl) (by decide) ?_
          refine r_goto (tgt := 145) (zdk oM_violation 82 rfl) (by decide) ?_
          exact fin
        | false =>
          rw [h3] at fin
          refine r_if_ne (tgt := 140) (zdk oM_violation 65 rfl) (by decide) (fun q9 => absurd ((rfl)) q9) (fun _ => ?_)
          refine r_iload (zdk oM_violation 66 rfl) rfl ?_
          by_cases q1 : D p = 0
          · refine r_if_le (tgt := 144) (zdk oM_violation 67 rfl) (by decide) (fun _ => ?_) (fun q9 => absurd ((nI_z q1)) q9)
            refine r_iconst (v := 0) (zdk oM_violation 83 rfl) (by decide) ?_
            rw [show (false || (decide (0 < D p) && (decide (3 < D p) || decide (g / 2 ^ (D p - 1) % 2 = 0)))) = false by simp [q1]] at fin
            exact fin
          · refine r_if_le (tgt := 144) (zdk oM_violation 67 rfl) (by decide) (fun q9 => absurd q9 ((nI_nz (Nat.pos_of_ne_zero q1) (by omega)))) (fun _ => ?_)
            have em : nI (D p) - 1 = nI (D p - 1) := by rw [show (1 : Int32) = nI 1 from rfl, pk_sub (by omega)]
            refine r_iload (zdk oM_violation 68 rfl) rfl ?_
            refine r_iconst (v := 1) (zdk oM_violation 69 rfl) (by decide) ?_
            refine r_isub (zdk oM_violation 70 rfl) ?_
            rw [em]
            refine r_iconst (v := 2) (zdk oM_violation 71 rfl) (by decide) ?_
            by_cases q2 : 3 < D p
            · refine r_icmp_gt (tgt := 140) (zdk oM_violation 72 rfl) (by decide) (fun _ => ?_) (fun q9 => absurd ((Int32.not_le.mp (nI_ge (a := 2) (b := D p - 1) (by omega) (by omega)))) q9)
              refine r_iconst (v := 1) (zdk oM_violation 81 rfl) (by decide) ?_
              refine r_goto (tgt := 145) (zdk oM_violation 82 rfl) (by decide) ?_
              rw [show (false || (decide (0 < D p) && (decide (3 < D p) || decide (g / 2 ^ (D p - 1) % 2 = 0)))) = true by simp [q2]; omega] at fin
              exact fin
            · refine r_icmp_gt (tgt := 140) (zdk oM_violation 72 rfl) (by decide) (fun q9 => absurd q9 ((Int32.not_lt.mpr (nI_lel (a := D p - 1) (b := 2) (by omega) (by decide))))) (fun _ => ?_)
              refine r_iload (zdk oM_violation 73 rfl) rfl ?_
              refine r_iload (zdk oM_violation 74 rfl) rfl ?_
              refine r_iconst (v := 1) (zdk oM_violation 75 rfl) (by decide) ?_
              refine r_isub (zdk oM_violation 76 rfl) ?_
              rw [em]
              refine r_ishr (zdk oM_violation 77 rfl) ?_
              refine r_iconst (v := 1) (zdk oM_violation 78 rfl) (by decide) ?_
              refine r_iand (zdk oM_violation 79 rfl) ?_
              refine r_tp (vBit hg (show D p - 1 < 3 by omega)) ?_
              by_cases q3 : g / 2 ^ (D p - 1) % 2 = 0
              · refine r_if_ne (tgt := 144) (zdk oM_violation 80 rfl) (by decide) (fun q9 => absurd ((show nI (g / 2 ^ (D p - 1) % 2) = 0 by rw [q3]; rfl)) q9) (fun _ => ?_)
                refine r_iconst (v := 1) (zdk oM_violation 81 rfl) (by decide) ?_
                refine r_goto (tgt := 145) (zdk oM_violation 82 rfl) (by decide) ?_
                rw [show (false || (decide (0 < D p) && (decide (3 < D p) || decide (g / 2 ^ (D p - 1) % 2 = 0)))) = true by simp [q3]; omega] at fin
                exact fin
              · refine r_if_ne (tgt := 144) (zdk oM_violation 80 rfl) (by decide) (fun _ => ?_) (fun q9 => absurd q9 ((fun z => q3 (nI_inj (by omega) (by decide) (show nI (g / 2 ^ (D p - 1) % 2) = nI 0 from z)))))
                refine r_iconst (v := 0) (zdk oM_violation 83 rfl) (by decide) ?_
                rw [show (false || (decide (0 < D p) && (decide (3 < D p) || decide (g / 2 ^ (D p - 1) % 2 = 0)))) = false by simp [q2, q3]] at fin
                exact fin
      -- the first part: two that differ
      have inner : ∀ (m2 i : Nat), i + m2 = p → zMC false d 0 0 0 0 mM_violation K 54 [some (.inr (.inr 27)), some (.inl (nI np)), some (.inr (.inl (nJ (xRc f g0 (np * vars))))), none, some (.inl (nI g)), some (.inl (fBo (vDi D (vDf D p) p i))), some (.inl (fBo (vNo D g p))), some (.inl (fBo (vCh D (fun p => f (p * vars)) p))), some (.inl (nI p)), some (.inl (nI (D p))), some (.inl (nI (f (p * vars)))), some (.inl (nI i))] [] h := by
        intro m2
        induction m2 with
        | zero =>
          intro i hi
          have e : i = p := by omega
          subst e
          refine r_iload (zdk oM_violation 36 rfl) rfl ?_
          refine r_iload (zdk oM_violation 37 rfl) rfl ?_
          refine r_icmp_ge (tgt := 110) (zdk oM_violation 38 rfl) (by decide) (fun _ => ?_) (fun q9 => absurd ((Int32.le_refl (nI i))) q9)
          exact noi
        | succ m2 ih2 =>
          intro i hi
          obtain ⟨di, ei⟩ := hD i (by omega)
          have fin : zMC false d 0 0 0 0 mM_violation K 102 [some (.inr (.inr 27)), some (.inl (nI np)), some (.inr (.inl (nJ (xRc f g0 (np * vars))))), none, some (.inl (nI g)), some (.inl (fBo (vDi D (vDf D p) p i))), some (.inl (fBo (vNo D g p))), some (.inl (fBo (vCh D (fun p => f (p * vars)) p))), some (.inl (nI p)), some (.inl (nI (D p))), some (.inl (nI (f (p * vars)))), some (.inl (nI i))] [.inl (fBo (vDi D (vDf D p) p (i + 1)))] h := by
            refine r_istore (zdk oM_violation 61 rfl) (Nat.le_of_ble_eq_true rfl) rfl ?_
            first | refine r_iinc (zdk oM_violation 62 rfl) rfl (zinc _) rfl ?_ | refine r_iinc (zdk oM_violation 62 rfl) rfl rfl rfl ?_
            refine r_goto (tgt := 54) (zdk oM_violation 63 rfl) (by decide) ?_
            exact ih2 (i + 1) (by omega)
          rw [show vDi D (vDf D p) p (i + 1) = (vDi D (vDf D p) p i || (decide (0 < D p) && decide (0 < D i) && !decide (D p = D i))) from rfl] at fin
          refine r_iload (zdk oM_violation 36 rfl) rfl ?_
          refine r_iload (zdk oM_violation 37 rfl) rfl ?_
          refine r_icmp_ge (tgt := 110) (zdk oM_violation 38 rfl) (by decide) (fun q9 => absurd q9 ((nI_ge (a := i) (b := p) (by omega) (by omega)))) (fun _ => ?_)
          refine r_iload (zdk oM_violation 39 rfl) rfl ?_
          cases h3 : vDi D (vDf D p) p i with
          | true =>
            rw [h3] at fin
            refine r_if_ne (tgt := 97) (zdk oM_violation 40 rfl) (by decide) (fun _ => ?_) (fun q9 => absurd q9 ((fBo_t)))
            refine r_iconst (v := 1) (zdk oM_violation 58 rfl) (by decide) ?_
            refine r_goto (tgt := 102) (zdk oM_violation 59 rfl) (by decide) ?_
            exact fin
          | false =>
            rw [h3] at fin
            refine r_if_ne (tgt := 97) (zdk oM_violation 40 rfl) (by decide) (fun q9 => absurd ((rfl)) q9) (fun _ => ?_)
            refine r_iload (zdk oM_violation 41 rfl) rfl ?_
            by_cases q1 : D p = 0
            · refine r_if_le (tgt := 101) (zdk oM_violation 42 rfl) (by decide) (fun _ => ?_) (fun q9 => absurd ((nI_z q1)) q9)
              refine r_iconst (v := 0) (zdk oM_violation 60 rfl) (by decide) ?_
              rw [show (false || (decide (0 < D p) && decide (0 < D i) && !decide (D p = D i))) = false by simp [q1]] at fin
              exact fin
            · refine r_if_le (tgt := 101) (zdk oM_violation 42 rfl) (by decide) (fun q9 => absurd q9 ((nI_nz (Nat.pos_of_ne_zero q1) (by omega)))) (fun _ => ?_)
              refine r_aload_n (zdk oM_violation 43 rfl) rfl rfl ?_
              refine r_getr (kf := 13) (zdk oM_violation 44 rfl) rfl rfl (by decide) lF_M_28 rfl ?_
              refine r_iconst (v := 5) (zdk oM_violation 45 rfl) (by decide) ?_
              refine r_iload (zdk oM_violation 46 rfl) rfl ?_
              refine r_imul (zdk oM_violation 47 rfl) ?_
              refine r_tp (pk_mul 5 i) ?_
              refine r_iald (zdk oM_violation 48 rfl) rfl (vp_in_nI (n := 5 * i) (by omega) (by decide)) ?_
              rw [nI_clamp (n := 5 * i) (by omega), ei]
              by_cases q2 : D i = 0
              · refine r_if_le (tgt := 101) (zdk oM_violation 49 rfl) (by decide) (fun _ => ?_) (fun q9 => absurd ((nI_z q2)) q9)
                refine r_iconst (v := 0) (zdk oM_violation 60 rfl) (by decide) ?_
                rw [show (false || (decide (0 < D p) && decide (0 < D i) && !decide (D p = D i))) = false by simp [q2]] at fin
                exact fin
              · refine r_if_le (tgt := 101) (zdk oM_violation 49 rfl) (by decide) (fun q9 => absurd q9 ((nI_nz (Nat.pos_of_ne_zero q2) (by omega)))) (fun _ => ?_)
                refine r_iload (zdk oM_violation 50 rfl) rfl ?_
                refine r_aload_n (zdk oM_violation 51 rfl) rfl rfl ?_
                refine r_getr (kf := 13) (zdk oM_violation 52 rfl) rfl rfl (by decide) lF_M_28 rfl ?_
                refine r_iconst (v := 5) (zdk oM_violation 53 rfl) (by decide) ?_
                refine r_iload (zdk oM_violation 54 rfl) rfl ?_
                refine r_imul (zdk oM_violation 55 rfl) ?_
                refine r_tp (pk_mul 5 i) ?_
                refine r_iald (zdk oM_violation 56 rfl) rfl (vp_in_nI (n := 5 * i) (by omega) (by decide)) ?_
                rw [nI_clamp (n := 5 * i) (by omega), ei]
                by_cases q3 : D p = D i
                · refine r_icmp_eq (tgt := 101) (zdk oM_violation 57 rfl) (by decide) (fun _ => ?_) (fun q9 => absurd ((show nI (D p) = nI (D i) by rw [q3])) q9)
                  refine r_iconst (v := 0) (zdk oM_violation 60 rfl) (by decide) ?_
                  rw [show (false || (decide (0 < D p) && decide (0 < D i) && !decide (D p = D i))) = false by simp [q3]] at fin
                  exact fin
                · refine r_icmp_eq (tgt := 101) (zdk oM_violation 57 rfl) (by decide) (fun q9 => absurd q9 ((fun z => q3 (nI_inj (by omega) (by omega) z)))) (fun _ => ?_)
                  refine r_iconst (v := 1) (zdk oM_violation 58 rfl) (by decide) ?_
                  refine r_goto (tgt := 102) (zdk oM_violation 59 rfl) (by decide) ?_
                  rw [show (false || (decide (0 < D p) && decide (0 < D i) && !decide (D p = D i))) = true by simp [q3]; omega] at fin
                  exact fin
      obtain ⟨w, hw⟩ : ∃ w, np = p + (w + 1) := ⟨m, by omega⟩
      have hsh : 4 * (nI vars * (nI np - nI p) - 1) = nI (4 * (vars * (np - p) - 1)) := by
        have h1 : 1 ≤ vars * (np - p) := Nat.one_le_iff_ne_zero.mpr (Nat.mul_ne_zero (by omega) (by omega))
        rw [pk_sub (by omega), pk_mul, show (1 : Int32) = nI 1 from rfl, pk_sub h1, show (4 : Int32) = nI 4 from rfl, pk_mul]
      have hk1 : vars * (np - p) = vars * w + vars := by rw [hw, show p + (w + 1) - p = w + 1 by omega, Nat.mul_succ]
      have hk2 : np * vars = p * vars + (vars * w + vars) := by rw [hw, Nat.add_mul, Nat.add_mul, Nat.mul_comm w, Nat.one_mul]
      refine r_iload (zdk oM_violation 8 rfl) rfl ?_
      refine r_iload_n (zdk oM_violation 9 rfl) rfl rfl ?_
      refine r_icmp_ge (tgt := 177) (zdk oM_violation 10 rfl) (by decide) (fun q9 => absurd q9 ((nI_ge (a := p) (b := np) (by omega) (by omega)))) (fun _ => ?_)
      refine r_aload_n (zdk oM_violation 11 rfl) rfl rfl ?_
      refine r_getr (kf := 13) (zdk oM_violation 12 rfl) rfl rfl (by decide) lF_M_28 rfl ?_
      refine r_iconst (v := 5) (zdk oM_violation 13 rfl) (by decide) ?_
      refine r_iload (zdk oM_violation 14 rfl) rfl ?_
      refine r_imul (zdk oM_violation 15 rfl) ?_
      refine r_tp (pk_mul 5 p) ?_
      refine r_iald (zdk oM_violation 16 rfl) rfl (vp_in_nI (n := 5 * p) (by omega) (by decide)) ?_
      rw [nI_clamp (n := 5 * p) (by omega), ed]
      refine r_istore (zdk oM_violation 17 rfl) (Nat.le_of_ble_eq_true rfl) rfl ?_
      refine r_lload_n (zdk oM_violation 18 rfl) rfl rfl ?_
      refine r_iconst (v := 4) (zdk oM_violation 19 rfl) (by decide) ?_
      refine r_aload_n (zdk oM_violation 20 rfl) rfl rfl ?_
      refine r_geti (kf := 8) (zdk oM_violation 21 rfl) rfl rfl (by decide) lF_M_113 rfl ?_
      rw [k8]
      refine r_iload_n (zdk oM_violation 22 rfl) rfl rfl ?_
      refine r_iload (zdk oM_violation 23 rfl) rfl ?_
      refine r_isub (zdk oM_violation 24 rfl) ?_
      refine r_imul (zdk oM_violation 25 rfl) ?_
      refine r_iconst (v := 1) (zdk oM_violation 26 rfl) (by decide) ?_
      refine r_isub (zdk oM_violation 27 rfl) ?_
      refine r_imul (zdk oM_violation 28 rfl) ?_
      refine r_tp hsh ?_
      refine r_lshr (zdk oM_violation 29 rfl) ?_
      refine r_ldc2 (zdk oM_violation 30 rfl) lD_M_183 ?_
      refine r_land (zdk oM_violation 31 rfl) ?_
      rw [nJ_shr _ _ (xRc_lt63 hg0 hf hT) (by omega), nJ_15]
      refine r_l2i (zdk oM_violation 32 rfl) ?_
      rw [nJ_l2i, show xRc f g0 (np * vars) / 2 ^ (4 * (vars * (np - p) - 1)) % 16 = f (p * vars) by
        rw [Nat.pow_mul, show 2 ^ 4 = 16 from rfl, show np * vars = p * vars + 1 + (vars * (np - p) - 1) by omega]
        exact xRc_dig (fun j hj => hf j (by omega))]
      refine r_istore (zdk oM_violation 33 rfl) (Nat.le_of_ble_eq_true rfl) rfl ?_
      refine r_iconst (v := 0) (zdk oM_violation 34 rfl) (by decide) ?_
      refine r_istore (zdk oM_violation 35 rfl) (Nat.le_of_ble_eq_true rfl) rfl ?_
      exact inner p 0 (by omega)
  refine zmet (by decide +kernel) (Nat.le_of_ble_eq_true rfl) ?_
  refine r_iconst (v := 0) (zdk oM_violation 0 rfl) (by decide) ?_
  refine r_istore (zdk oM_violation 1 rfl) (Nat.le_of_ble_eq_true rfl) rfl ?_
  refine r_iconst (v := 0) (zdk oM_violation 2 rfl) (by decide) ?_
  refine r_istore (zdk oM_violation 3 rfl) (Nat.le_of_ble_eq_true rfl) rfl ?_
  refine r_iconst (v := 0) (zdk oM_violation 4 rfl) (by decide) ?_
  refine r_istore (zdk oM_violation 5 rfl) (Nat.le_of_ble_eq_true rfl) rfl ?_
  refine r_iconst (v := 0) (zdk oM_violation 6 rfl) (by decide) ?_
  refine r_istore (zdk oM_violation 7 rfl) (Nat.le_of_ble_eq_true rfl) rfl ?_
  exact loop np 0 (by omega)
