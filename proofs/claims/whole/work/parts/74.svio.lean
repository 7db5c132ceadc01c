/-! the class's search: what must not be -/
def cOn (D : Nat → Nat) : Nat → Nat
  | 0 => 0
  | p + 1 => if D p = 0 then cOn D p else D p
def cDf (D : Nat → Nat) : Nat → Bool
  | 0 => false
  | p + 1 => if D p = 0 then cDf D p else cDf D p || (!decide (cOn D p = 0) && !decide (cOn D p = D p))
theorem cDf_eq (D : Nat → Nat) {np : Nat} (h : np ≤ 3) : cDf D np = vDf D np := by
  have : np = 0 ∨ np = 1 ∨ np = 2 ∨ np = 3 := by omega
  rcases this with rfl | rfl | rfl | rfl
  · rfl
  · simp [cDf, vDf, vDi, cOn]
  · simp only [cDf, vDf, vDi, cOn]
    by_cases a : D 0 = 0 <;> by_cases b : D 1 = 0 <;> by_cases e : D 0 = D 1 <;> simp_all <;> omega
  · simp only [cDf, vDf, vDi, cOn]
    by_cases a : D 0 = 0 <;> by_cases b : D 1 = 0 <;> by_cases c : D 2 = 0 <;> by_cases e : D 0 = D 1 <;> by_cases f : D 0 = D 2 <;> by_cases g : D 1 = D 2 <;> simp_all <;> omega
theorem fBo_or (a b : Bool) : fBo a ||| fBo b = fBo (a || b) := by cases a <;> cases b <;> decide
theorem vBitJ {K k : Nat} (hK : K < 2 ^ 63) (hk : k < 3) : ((nJ K).toUInt64 >>> ((nI (60 + k)).toInt64.toUInt64 &&& Int64.toUInt64 63)).toInt64 &&& 1 = nJ (K / 16 ^ 15 / 2 ^ k % 2) := by
  rw [nJ_ushr K (60 + k) hK (by omega), show (1 : Int64) = nJ 1 from rfl, nJ_and, Nat.and_one_is_mod, Nat.pow_add, Nat.div_div_eq_div_mul]
theorem spS_violationOf (d : Nat) (h : zH) (np K K' : Nat) (hn : h.1 14 13 = nI np) (n3 : np ≤ 3) (hK : K < 2 ^ 63) (hK' : K' < 2 ^ 63) :
    zSP (d + 1) 0 0 mS_violationOf [.inr (.inr 14), .inr (.inl (nJ K)), .inr (.inl (nJ K'))] h (zI (nI (xVi (fun p => xD K' (5 * p)) (fun p => xD K (5 * p)) (K' / 16 ^ 15) np)) h) := by
  generalize eD : (fun p => xD K' (5 * p)) = D
  generalize eE : (fun p => xD K (5 * p)) = E
  have hD : ∀ p, xD K' (5 * p) = D p := fun p => by rw [← eD]
  have hE : ∀ p, xD K (5 * p) = E p := fun p => by rw [← eE]
  have hD16 : ∀ p, D p < 16 := fun p => by rw [← hD]; exact xD_lt _ _
  have hE16 : ∀ p, E p < 16 := fun p => by rw [← hE]; exact xD_lt _ _
  have hg8 := xtop8 hK'
  have eV := cDf_eq D n3
  suffices main : ∀ Q : zR → zH → Prop, Q (.inl (some (.inl (nI (xVi D E (K' / 16 ^ 15) np))))) h → zSP (d + 1) 0 0 mS_violationOf [.inr (.inr 14), .inr (.inl (nJ K)), .inr (.inl (nJ K'))] h Q from main _ (zIi rfl)
  intro Q hQ
  have one16 : ∀ p, cOn D p < 16 := by
    intro p
    induction p with
    | zero => show 0 < 16; decide
    | succ p ih =>
      show (if D p = 0 then cOn D p else D p) < 16
      split
      · exact ih
      · exact hD16 p
  have loop : ∀ (m p : Nat), p + m = np → zMC false (d + 1) 0 0 0 0 mS_violationOf Q 15 [some (.inr (.inr 14)), some (.inr (.inl (nJ K))), none, some (.inr (.inl (nJ K'))), none, some (.inl (fBo (cDf D p))), some (.inl (fBo (vNo D (K' / 16 ^ 15) p))), some (.inl (fBo (vCh D E p))), some (.inl (nI (cOn D p))), some (.inl (nI p)), none, none] [] h := by
    intro m
    induction m with
    | zero =>
      intro p hp
      have e : p = np := by omega
      subst e
      unfold xVi at hQ
      rw [← eV] at hQ
      refine r_iload (zdk oS_violationOf 10 rfl) rfl ?_
      refine r_aload_n (zdk oS_violationOf 11 rfl) rfl rfl ?_
      refine r_geti (kf := 13) (zdk oS_violationOf 12 rfl) rfl rfl (by decide) lF_S_47 rfl ?_
      rw [hn]
      refine r_icmp_ge (tgt := 133) (zdk oS_violationOf 13 rfl) (by decide) (fun _ => ?_) (fun q9 => absurd ((Int32.le_refl (nI p))) q9)
      refine r_iload (zdk oS_violationOf 73 rfl) rfl ?_
      cases h1 : cDf D p with
      | true =>
        refine r_if_eq (tgt := 142) (zdk oS_violationOf 74 rfl) (by decide) (fun q9 => absurd q9 ((fBo_t))) (fun _ => ?_)
        refine r_iconst (v := 1) (zdk oS_violationOf 75 rfl) (by decide) ?_
        refine r_goto (tgt := 161) (zdk oS_violationOf 76 rfl) (by decide) ?_
        refine r_iret (zdk oS_violationOf 86 rfl) rfl ?_
        rw [if_pos h1] at hQ
        exact hQ
      | false =>
        rw [if_neg (by rw [h1]; decide)] at hQ
        refine r_if_eq (tgt := 142) (zdk oS_violationOf 74 rfl) (by decide) (fun _ => ?_) (fun q9 => absurd ((rfl)) q9)
        refine r_iload (zdk oS_violationOf 77 rfl) rfl ?_
        cases h2 : vNo D (K' / 16 ^ 15) p with
        | true =>
          refine r_if_eq (tgt := 151) (zdk oS_violationOf 78 rfl) (by decide) (fun q9 => absurd q9 ((fBo_t))) (fun _ => ?_)
          refine r_iconst (v := 2) (zdk oS_violationOf 79 rfl) (by decide) ?_
          refine r_goto (tgt := 161) (zdk oS_violationOf 80 rfl) (by decide) ?_
          refine r_iret (zdk oS_violationOf 86 rfl) rfl ?_
          rw [if_pos h2] at hQ
          exact hQ
        | false =>
          rw [if_neg (by rw [h2]; decide)] at hQ
          refine r_if_eq (tgt := 151) (zdk oS_violationOf 78 rfl) (by decide) (fun _ => ?_) (fun q9 => absurd ((rfl)) q9)
          refine r_iload (zdk oS_violationOf 81 rfl) rfl ?_
          cases h3 : vCh D E p with
          | true =>
            refine r_if_eq (tgt := 160) (zdk oS_violationOf 82 rfl) (by decide) (fun q9 => absurd q9 ((fBo_t))) (fun _ => ?_)
            refine r_iconst (v := 3) (zdk oS_violationOf 83 rfl) (by decide) ?_
            refine r_goto (tgt := 161) (zdk oS_violationOf 84 rfl) (by decide) ?_
            refine r_iret (zdk oS_violationOf 86 rfl) rfl ?_
            rw [if_pos h3] at hQ
            exact hQ
          | false =>
            rw [if_neg (by rw [h3]; decide)] at hQ
            refine r_if_eq (tgt := 160) (zdk oS_violationOf 82 rfl) (by decide) (fun _ => ?_) (fun q9 => absurd ((rfl)) q9)
            refine r_iconst (v := 0) (zdk oS_violationOf 85 rfl) (by decide) ?_
            refine r_iret (zdk oS_violationOf 86 rfl) rfl ?_
            exact hQ
    | succ m ih =>
      intro p hp
      have d16 := hD16 p
      have e16 := hE16 p
      have o16 := one16 p
      have ih1 := ih (p + 1) (by omega)
      -- after the input's bit
      have noi : ¬ D p = 0 → zMC false (d + 1) 0 0 0 0 mS_violationOf Q 95 [some (.inr (.inr 14)), some (.inr (.inl (nJ K))), none, some (.inr (.inl (nJ K'))), none, some (.inl (fBo (cDf D (p + 1)))), some (.inl (fBo (vNo D (K' / 16 ^ 15) p))), some (.inl (fBo (vCh D E (p + 1)))), some (.inl (nI (D p))), some (.inl (nI p)), some (.inl (nI (D p))), some (.inl (nI (E p)))] [] h := by
        intro q0
        have fin : zMC false (d + 1) 0 0 0 0 mS_violationOf Q 124 [some (.inr (.inr 14)), some (.inr (.inl (nJ K))), none, some (.inr (.inl (nJ K'))), none, some (.inl (fBo (cDf D (p + 1)))), some (.inl (fBo (vNo D (K' / 16 ^ 15) p))), some (.inl (fBo (vCh D E (p + 1)))), some (.inl (nI (D p))), some (.inl (nI p)), some (.inl (nI (D p))), some (.inl (nI (E p)))] [.inl (fBo (decide (0 < D p) && (decide (3 < D p) || decide (K' / 16 ^ 15 / 2 ^ (D p - 1) % 2 = 0)))), .inl (fBo (vNo D (K' / 16 ^ 15) p))] h := by
          refine r_ior (zdk oS_violationOf 69 rfl) ?_
          rw [fBo_or]
          refine r_istore (zdk oS_violationOf 70 rfl) (Nat.le_of_ble_eq_true rfl) rfl ?_
          first | refine r_iinc (zdk oS_violationOf 71 rfl) rfl (zinc _) rfl ?_ | refine r_iinc (zdk oS_violationOf 71 rfl) rfl rfl rfl ?_
          refine r_goto (tgt := 15) (zdk oS_violationOf 72 rfl) (by decide) ?_
          refine r_mask [true, true, true, true, true, true, true, true, true, true, false, false] rfl rfl ?_
          rw [show cOn D (p + 1) = D p from if_neg q0] at ih1
          exact ih1
        refine r_iload (zdk oS_violationOf 50 rfl) rfl ?_
        refine r_iload (zdk oS_violationOf 51 rfl) rfl ?_
        refine r_iconst (v := 3) (zdk oS_violationOf 52 rfl) (by decide) ?_
        by_cases q2 : 3 < D p
        · refine r_icmp_gt (tgt := 119) (zdk oS_violationOf 53 rfl) (by decide) (fun _ => ?_) (fun q9 => absurd ((Int32.not_le.mp (nI_ge (a := 3) (b := D p) q2 (by omega)))) q9)
          refine r_iconst (v := 1) (zdk oS_violationOf 66 rfl) (by decide) ?_
          refine r_goto (tgt := 124) (zdk oS_violationOf 67 rfl) (by decide) ?_
          rw [show (decide (0 < D p) && (decide (3 < D p) || decide (K' / 16 ^ 15 / 2 ^ (D p - 1) % 2 = 0))) = true by simp [q2]; omega] at fin
          exact fin
        · refine r_icmp_gt (tgt := 119) (zdk oS_violationOf 53 rfl) (by decide) (fun q9 => absurd q9 ((Int32.not_lt.mpr (nI_lel (a := D p) (b := 3) (by omega) (by decide))))) (fun _ => ?_)
          refine r_lload_n (zdk oS_violationOf 54 rfl) rfl rfl ?_
          refine r_bipush (v := 60) (zdk oS_violationOf 55 rfl) (by decide) ?_
          refine r_iload (zdk oS_violationOf 56 rfl) rfl ?_
          refine r_iadd (zdk oS_violationOf 57 rfl) ?_
          refine r_iconst (v := 1) (zdk oS_violationOf 58 rfl) (by decide) ?_
          refine r_isub (zdk oS_violationOf 59 rfl) ?_
          refine r_tp (show (60 : Int32) + nI (D p) - 1 = nI (60 + (D p - 1)) by rw [show (60 : Int32) = nI 60 from rfl, nI_add, show (1 : Int32) = nI 1 from rfl, pk_sub (by omega)]; congr 1; omega) ?_
          refine r_lushr (zdk oS_violationOf 60 rfl) ?_
          refine r_lconst (v := 1) (zdk oS_violationOf 61 rfl) (by decide) ?_
          refine r_land (zdk oS_violationOf 62 rfl) ?_
          rw [vBitJ hK' (show D p - 1 < 3 by omega)]
          refine r_lconst (v := 0) (zdk oS_violationOf 63 rfl) (by decide) ?_
          refine r_lcmp (zdk oS_violationOf 64 rfl) ?_
          by_cases q3 : K' / 16 ^ 15 / 2 ^ (D p - 1) % 2 = 0
          · refine r_if_ne (tgt := 123) (zdk oS_violationOf 65 rfl) (by decide) (fun q9 => absurd (((lg0 _ _).mpr (by rw [q3]; rfl))) q9) (fun _ => ?_)
            refine r_iconst (v := 1) (zdk oS_violationOf 66 rfl) (by decide) ?_
            refine r_goto (tgt := 124) (zdk oS_violationOf 67 rfl) (by decide) ?_
            rw [show (decide (0 < D p) && (decide (3 < D p) || decide (K' / 16 ^ 15 / 2 ^ (D p - 1) % 2 = 0))) = true by simp [q3]; omega] at fin
            exact fin
          · refine r_if_ne (tgt := 123) (zdk oS_violationOf 65 rfl) (by decide) (fun _ => ?_) (fun q9 => absurd q9 ((fun z => q3 (nJ_inj (by omega) (by decide) ((lg0 _ _).mp z)))))
            refine r_iconst (v := 0) (zdk oS_violationOf 68 rfl) (by decide) ?_
            rw [show (decide (0 < D p) && (decide (3 < D p) || decide (K' / 16 ^ 15 / 2 ^ (D p - 1) % 2 = 0))) = false by simp [q2, q3]] at fin
            exact fin
      -- after what is changed
      have dif : zMC false (d + 1) 0 0 0 0 mS_violationOf Q 64 [some (.inr (.inr 14)), some (.inr (.inl (nJ K))), none, some (.inr (.inl (nJ K'))), none, some (.inl (fBo (cDf D p))), some (.inl (fBo (vNo D (K' / 16 ^ 15) p))), some (.inl (fBo (vCh D E (p + 1)))), some (.inl (nI (cOn D p))), some (.inl (nI p)), some (.inl (nI (D p))), some (.inl (nI (E p)))] [] h := by
        refine r_iload (zdk oS_violationOf 35 rfl) rfl ?_
        by_cases q0 : D p = 0
        · refine r_if_eq (tgt := 127) (zdk oS_violationOf 36 rfl) (by decide) (fun _ => ?_) (fun q9 => absurd ((show nI (D p) = 0 by rw [q0]; rfl)) q9)
          first | refine r_iinc (zdk oS_violationOf 71 rfl) rfl (zinc _) rfl ?_ | refine r_iinc (zdk oS_violationOf 71 rfl) rfl rfl rfl ?_
          refine r_goto (tgt := 15) (zdk oS_violationOf 72 rfl) (by decide) ?_
          refine r_mask [true, true, true, true, true, true, true, true, true, true, false, false] rfl rfl ?_
          rw [show cOn D (p + 1) = cOn D p from if_pos q0, show cDf D (p + 1) = cDf D p from if_pos q0, show vNo D (K' / 16 ^ 15) (p + 1) = vNo D (K' / 16 ^ 15) p by show (vNo D (K' / 16 ^ 15) p || _) = _; simp [q0]] at ih1
          exact ih1
        · refine r_if_eq (tgt := 127) (zdk oS_violationOf 36 rfl) (by decide) (fun q9 => absurd q9 ((fun z => q0 (nI_inj (by omega) (by decide) (show nI (D p) = nI 0 from z))))) (fun _ => ?_)
          have noi := noi q0
          have fin : zMC false (d + 1) 0 0 0 0 mS_violationOf Q 88 [some (.inr (.inr 14)), some (.inr (.inl (nJ K))), none, some (.inr (.inl (nJ K'))), none, some (.inl (fBo (cDf D p))), some (.inl (fBo (vNo D (K' / 16 ^ 15) p))), some (.inl (fBo (vCh D E (p + 1)))), some (.inl (nI (cOn D p))), some (.inl (nI p)), some (.inl (nI (D p))), some (.inl (nI (E p)))] [.inl (fBo (!decide (cOn D p = 0) && !decide (cOn D p = D p))), .inl (fBo (cDf D p))] h := by
            refine r_ior (zdk oS_violationOf 46 rfl) ?_
            rw [fBo_or]
            refine r_istore (zdk oS_violationOf 47 rfl) (Nat.le_of_ble_eq_true rfl) rfl ?_
            refine r_iload (zdk oS_violationOf 48 rfl) rfl ?_
            refine r_istore (zdk oS_violationOf 49 rfl) (Nat.le_of_ble_eq_true rfl) rfl ?_
            rw [show cDf D (p + 1) = (cDf D p || (!decide (cOn D p = 0) && !decide (cOn D p = D p))) from if_neg q0] at noi
            exact noi
          refine r_iload (zdk oS_violationOf 37 rfl) rfl ?_
          refine r_iload (zdk oS_violationOf 38 rfl) rfl ?_
          by_cases q1 : cOn D p = 0
          · refine r_if_eq (tgt := 87) (zdk oS_violationOf 39 rfl) (by decide) (fun _ => ?_) (fun q9 => absurd ((show nI (cOn D p) = 0 by rw [q1]; rfl)) q9)
            refine r_iconst (v := 0) (zdk oS_violationOf 45 rfl) (by decide) ?_
            rw [show (!decide (cOn D p = 0) && !decide (cOn D p = D p)) = false by simp [q1]] at fin
            exact fin
          · refine r_if_eq (tgt := 87) (zdk oS_violationOf 39 rfl) (by decide) (fun q9 => absurd q9 ((fun z => q1 (nI_inj (by omega) (by decide) (show nI (cOn D p) = nI 0 from z))))) (fun _ => ?_)
            refine r_iload (zdk oS_violationOf 40 rfl) rfl ?_
            refine r_iload (zdk oS_violationOf 41 rfl) rfl ?_
            by_cases q2 : cOn D p = D p
            · refine r_icmp_eq (tgt := 87) (zdk oS_violationOf 42 rfl) (by decide) (fun _ => ?_) (fun q9 => absurd ((show nI (cOn D p) = nI (D p) by rw [q2])) q9)
              refine r_iconst (v := 0) (zdk oS_violationOf 45 rfl) (by decide) ?_
              rw [show (!decide (cOn D p = 0) && !decide (cOn D p = D p)) = false by simp [q2]] at fin
              exact fin
            · refine r_icmp_eq (tgt := 87) (zdk oS_violationOf 42 rfl) (by decide) (fun q9 => absurd q9 ((fun z => q2 (nI_inj (by omega) (by omega) z)))) (fun _ => ?_)
              refine r_iconst (v := 1) (zdk oS_violationOf 43 rfl) (by decide) ?_
              refine r_goto (tgt := 88) (zdk oS_violationOf 44 rfl) (by decide) ?_
              rw [show (!decide (cOn D p = 0) && !decide (cOn D p = D p)) = true by simp [q1, q2]] at fin
              exact fin
      have fin : zMC false (d + 1) 0 0 0 0 mS_violationOf Q 61 [some (.inr (.inr 14)), some (.inr (.inl (nJ K))), none, some (.inr (.inl (nJ K'))), none, some (.inl (fBo (cDf D p))), some (.inl (fBo (vNo D (K' / 16 ^ 15) p))), some (.inl (fBo (vCh D E p))), some (.inl (nI (cOn D p))), some (.inl (nI p)), some (.inl (nI (D p))), some (.inl (nI (E p)))] [.inl (fBo (decide (0 < E p) && !decide (D p = E p))), .inl (fBo (vCh D E p))] h := by
        refine r_ior (zdk oS_violationOf 33 rfl) ?_
        rw [fBo_or]
        refine r_istore (zdk oS_violationOf 34 rfl) (Nat.le_of_ble_eq_true rfl) rfl ?_
        exact dif
      refine r_iload (zdk oS_violationOf 10 rfl) rfl ?_
      refine r_aload_n (zdk oS_violationOf 11 rfl) rfl rfl ?_
      refine r_geti (kf := 13) (zdk oS_violationOf 12 rfl) rfl rfl (by decide) lF_S_47 rfl ?_
      rw [hn]
      refine r_icmp_ge (tgt := 133) (zdk oS_violationOf 13 rfl) (by decide) (fun q9 => absurd q9 ((nI_ge (a := p) (b := np) (by omega) (by omega)))) (fun _ => ?_)
      refine r_lload_n (zdk oS_violationOf 14 rfl) rfl rfl ?_
      refine r_iload (zdk oS_violationOf 15 rfl) rfl ?_
      refine r_iconst (v := 0) (zdk oS_violationOf 16 rfl) (by decide) ?_
      refine r_callS3i (M' := mS_unpacked) (zdk oS_violationOf 17 rfl) lM_S_130 sS_unpacked (Nat.le_of_ble_eq_true rfl) rfl (spS_unpacked d h K' p 0 hK' (by omega) (by decide)) ?_
      rw [show xD K' (5 * p + 0) = D p from hD p]
      refine r_istore (zdk oS_violationOf 18 rfl) (Nat.le_of_ble_eq_true rfl) rfl ?_
      refine r_lload_n (zdk oS_violationOf 19 rfl) rfl rfl ?_
      refine r_iload (zdk oS_violationOf 20 rfl) rfl ?_
      refine r_iconst (v := 0) (zdk oS_violationOf 21 rfl) (by decide) ?_
      refine r_callS3i (M' := mS_unpacked) (zdk oS_violationOf 22 rfl) lM_S_130 sS_unpacked (Nat.le_of_ble_eq_true rfl) rfl (spS_unpacked d h K p 0 hK (by omega) (by decide)) ?_
      rw [show xD K (5 * p + 0) = E p from hE p]
      refine r_istore (zdk oS_violationOf 23 rfl) (Nat.le_of_ble_eq_true rfl) rfl ?_
      refine r_iload (zdk oS_violationOf 24 rfl) rfl ?_
      refine r_iload (zdk oS_violationOf 25 rfl) rfl ?_
      by_cases q1 : E p = 0
      · refine r_if_eq (tgt := 60) (zdk oS_violationOf 26 rfl) (by decide) (fun _ => ?_) (fun q9 => absurd ((show nI (E p) = 0 by rw [q1]; rfl)) q9)
        refine r_iconst (v := 0) (zdk oS_violationOf 32 rfl) (by decide) ?_
        rw [show (decide (0 < E p) && !decide (D p = E p)) = false by simp [q1]] at fin
        exact fin
      · refine r_if_eq (tgt := 60) (zdk oS_violationOf 26 rfl) (by decide) (fun q9 => absurd q9 ((fun z => q1 (nI_inj (by omega) (by decide) (show nI (E p) = nI 0 from z))))) (fun _ => ?_)
        refine r_iload (zdk oS_violationOf 27 rfl) rfl ?_
        refine r_iload (zdk oS_violationOf 28 rfl) rfl ?_
        by_cases q2 : E p = D p
        · refine r_icmp_eq (tgt := 60) (zdk oS_violationOf 29 rfl) (by decide) (fun _ => ?_) (fun q9 => absurd ((show nI (E p) = nI (D p) by rw [q2])) q9)
          refine r_iconst (v := 0) (zdk oS_violationOf 32 rfl) (by decide) ?_
          rw [show (decide (0 < E p) && !decide (D p = E p)) = false by simp [q2]] at fin
          exact fin
        · refine r_icmp_eq (tgt := 60) (zdk oS_violationOf 29 rfl) (by decide) (fun q9 => absurd q9 ((fun z => q2 (nI_inj (by omega) (by omega) z)))) (fun _ => ?_)
          refine r_iconst (v := 1) (zdk oS_violationOf 30 rfl) (by decide) ?_
          refine r_goto (tgt := 61) (zdk oS_violationOf 31 rfl) (by decide) ?_
          rw [show (decide (0 < E p) && !decide (D p = E p)) = true by simp; omega] at fin
          exact fin
  refine zmet (by decide +kernel) (Nat.le_of_ble_eq_true rfl) ?_
  refine r_iconst (v := 0) (zdk oS_violationOf 0 rfl) (by decide) ?_
  refine r_istore (zdk oS_violationOf 1 rfl) (Nat.le_of_ble_eq_true rfl) rfl ?_
  refine r_iconst (v := 0) (zdk oS_violationOf 2 rfl) (by decide) ?_
  refine r_istore (zdk oS_violationOf 3 rfl) (Nat.le_of_ble_eq_true rfl) rfl ?_
  refine r_iconst (v := 0) (zdk oS_violationOf 4 rfl) (by decide) ?_
  refine r_istore (zdk oS_violationOf 5 rfl) (Nat.le_of_ble_eq_true rfl) rfl ?_
  refine r_iconst (v := 0) (zdk oS_violationOf 6 rfl) (by decide) ?_
  refine r_istore (zdk oS_violationOf 7 rfl) (Nat.le_of_ble_eq_true rfl) rfl ?_
  refine r_iconst (v := 0) (zdk oS_violationOf 8 rfl) (by decide) ?_
  refine r_istore (zdk oS_violationOf 9 rfl) (Nat.le_of_ble_eq_true rfl) rfl ?_
  exact loop np 0 (by omega)
