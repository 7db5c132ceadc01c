/-! which hearings are of a kind; what must not be -/
theorem nI_lel {a b : Nat} (h : a ≤ b) (hb : b < 2 ^ 31) : nI a ≤ nI b := by
  rcases Nat.lt_or_ge a b with q | q
  · exact Int32.le_of_lt (Int32.not_le.mp (nI_ge (a := a) (b := b) q hb))
  · rw [show a = b by omega]; exact Int32.le_refl _
def xSt (np c p : Nat) : Nat := c / 2 ^ (np * (np - 1 - p)) % 2 ^ np
def xBc (s : Nat) : Nat := s % 2 + s / 2 % 2 + s / 4 % 2
def xAl (np c k : Nat) : Nat → Bool
  | 0 => true
  | p + 1 => xAl np c k p && ((!decide (k = 1) || decide (np < 2 * xBc (xSt np c p))) && (!decide (k = 3) || decide (2 * np < 3 * xBc (xSt np c p))))
def xCm (np c : Nat) : Nat → Nat
  | 0 => 2 ^ np - 1
  | p + 1 => xCm np c p &&& xSt np c p
def xLd (np c k : Nat) : Bool := xAl np c k np && (!decide (k = 2) || decide (¬ xCm np c np = 0))
def zset (h : zH) (np c m : Nat) : zH := (fun a j => if a = 33 ∧ j < m then nI (xSt np c j) else h.1 a j, h.2)
theorem zset1 {h : zH} {np c m a j : Nat} : (zset h np c m).1 a j = if a = 33 ∧ j < m then nI (xSt np c j) else h.1 a j := rfl
theorem zset_0 {h : zH} {np c : Nat} : zset h np c 0 = h := Prod.ext (funext (fun a => funext (fun j => if_neg (by omega)))) rfl
theorem zset_s {h : zH} {np c m : Nat} : zput (zset h np c m) 33 m (nI (xSt np c m)) = zset h np c (m + 1) := by
  refine Prod.ext ?_ rfl
  funext a j
  simp only [zp1, zset1]
  by_cases c2 : a = 33
  · subst c2
    by_cases c3 : j = m
    · simp [c3]
    · have e : (j < m + 1) = (j < m) := by simp only [eq_iff_iff]; omega
      simp [c3, e]
  · simp [c2]
theorem xSt_lt (np c p : Nat) : xSt np c p < 2 ^ np := Nat.mod_lt _ (Nat.pow_pos (by decide))
theorem xSt8 {np c p : Nat} (hn : np ≤ 3) : xSt np c p < 8 := Nat.lt_of_lt_of_le (xSt_lt np c p) (Nat.le_trans (Nat.pow_le_pow_right (by decide) hn) (by decide))
theorem xSt_i {np c p : Nat} (hn : np ≤ 3) (hc : c < 512) (hp : p < np) : (nI c >>> ((nI np * (nI np - 1 - nI p)) &&& 31)) &&& (((1 : Int32) <<< (nI np &&& 31)) - 1) = nI (xSt np c p) := by
  have key : ∀ np : Fin 4, ∀ c : Fin 512, ∀ p : Fin 3, p.val < np.val → (nI c.val >>> ((nI np.val * (nI np.val - 1 - nI p.val)) &&& 31)) &&& (((1 : Int32) <<< (nI np.val &&& 31)) - 1) = nI (xSt np.val c.val p.val) := by decide +kernel
  exact key ⟨np, by omega⟩ ⟨c, hc⟩ ⟨p, by omega⟩ hp
theorem xBc_i {s : Nat} (hs : s < 8) : (nI s &&& (1 : Int32)) + ((nI s >>> ((1 : Int32) &&& 31)) &&& 1) + ((nI s >>> ((2 : Int32) &&& 31)) &&& 1) = nI (xBc s) := by
  have key : ∀ s : Fin 8, (nI s.val &&& (1 : Int32)) + ((nI s.val >>> ((1 : Int32) &&& 31)) &&& 1) + ((nI s.val >>> ((2 : Int32) &&& 31)) &&& 1) = nI (xBc s.val) := by decide +kernel
  exact key ⟨s, hs⟩
theorem nI_and8 {a b : Nat} (ha : a < 8) (hb : b < 8) : nI a &&& nI b = nI (a &&& b) := by
  have key : ∀ a b : Fin 8, nI a.val &&& nI b.val = nI (a.val &&& b.val) := by decide +kernel
  exact key ⟨a, ha⟩ ⟨b, hb⟩
theorem xCm8 {np c : Nat} (hn : np ≤ 3) : ∀ p, xCm np c p < 8
  | 0 => by
    show 2 ^ np - 1 < 8
    have := Nat.pow_le_pow_right (n := 2) (by decide) hn
    omega
  | p + 1 => Nat.lt_of_le_of_lt Nat.and_le_left (xCm8 hn p)
theorem fBo_zr (b : Bool) : fBo b = 0 ∨ fBo b = 1 := by cases b <;> decide
theorem fBo_t : ¬ fBo true = 0 := by decide
theorem spM_laid (d : Nat) (h : zH) (np c k : Nat) (hn : np ≤ 3) (hc : c < 512) (hk : k ≤ 3) : zSP d 0 0 mM_laid [.inr (.inr 27), .inl (nI np), .inl (nI c), .inl (nI k)] h (zI (fBo (xLd np c k)) (zset h np c np)) := by
  suffices main : ∀ K : zR → zH → Prop, K (.inl (some (.inl (fBo (xLd np c k))))) (zset h np c np) → zSP d 0 0 mM_laid [.inr (.inr 27), .inl (nI np), .inl (nI c), .inl (nI k)] h K from main _ (zIh rfl rfl)
  intro K hK
  have loop : ∀ (m p : Nat), p + m = np → zMC false d 0 0 0 0 mM_laid K 13 [some (.inr (.inr 27)), some (.inl (nI np)), some (.inl (nI c)), some (.inl (nI k)), some (.inl (fBo (xAl np c k p))), some (.inl (nI (xCm np c p))), some (.inl (nI p)), none, none] [] (zset h np c p) := by
    intro m
    induction m with
    | zero =>
      intro p hp
      have e : p = np := by omega
      subst e
      have fin : zMC false d 0 0 0 0 mM_laid K 139 [some (.inr (.inr 27)), some (.inl (nI p)), some (.inl (nI c)), some (.inl (nI k)), some (.inl (fBo (xAl p c k p))), some (.inl (nI (xCm p c p))), some (.inl (nI p)), none, none] [.inl (fBo (xLd p c k))] (zset h p c p) := by
        refine r_zret (zdk oM_laid 90 rfl) rfl (fBo_zr _) ?_
        exact hK
      unfold xLd at fin
      refine r_iload (zdk oM_laid 10 rfl) rfl ?_
      refine r_iload_n (zdk oM_laid 11 rfl) rfl rfl ?_
      refine r_icmp_ge (tgt := 119) (zdk oM_laid 12 rfl) (by decide) (fun _ => ?_) (fun q9 => absurd ((Int32.le_refl (nI p))) q9)
      refine r_iload (zdk oM_laid 80 rfl) rfl ?_
      cases hA : xAl p c k p with
      | false =>
        rw [hA] at fin
        refine r_if_eq (tgt := 138) (zdk oM_laid 81 rfl) (by decide) (fun _ => ?_) (fun q9 => absurd ((rfl)) q9)
        refine r_iconst (v := 0) (zdk oM_laid 89 rfl) (by decide) ?_
        exact fin
      | true =>
        rw [hA] at fin
        refine r_if_eq (tgt := 138) (zdk oM_laid 81 rfl) (by decide) (fun q9 => absurd q9 ((fBo_t))) (fun _ => ?_)
        refine r_iload_n (zdk oM_laid 82 rfl) rfl rfl ?_
        refine r_iconst (v := 2) (zdk oM_laid 83 rfl) (by decide) ?_
        by_cases q2 : k = 2
        · refine r_icmp_ne (tgt := 134) (zdk oM_laid 84 rfl) (by decide) (fun q9 => absurd ((show nI k = 2 by rw [q2]; rfl)) q9) (fun _ => ?_)
          refine r_iload (zdk oM_laid 85 rfl) rfl ?_
          by_cases q3 : xCm p c p = 0
          · refine r_if_eq (tgt := 138) (zdk oM_laid 86 rfl) (by decide) (fun _ => ?_) (fun q9 => absurd ((show nI (xCm p c p) = 0 by rw [q3]; rfl)) q9)
            refine r_iconst (v := 0) (zdk oM_laid 89 rfl) (by decide) ?_
            rw [show (true && (!decide (k = 2) || decide (¬ xCm p c p = 0))) = false by simp [q2, q3]] at fin
            exact fin
          · refine r_if_eq (tgt := 138) (zdk oM_laid 86 rfl) (by decide) (fun q9 => absurd q9 ((fun z => q3 (nI_inj (by have := xCm8 (np := p) (c := c) hn p; omega) (by decide) (show nI (xCm p c p) = nI 0 from z))))) (fun _ => ?_)
            refine r_iconst (v := 1) (zdk oM_laid 87 rfl) (by decide) ?_
            refine r_goto (tgt := 139) (zdk oM_laid 88 rfl) (by decide) ?_
            rw [show (true && (!decide (k = 2) || decide (¬ xCm p c p = 0))) = true by simp [q2, q3]] at fin
            exact fin
        · refine r_icmp_ne (tgt := 134) (zdk oM_laid 84 rfl) (by decide) (fun _ => ?_) (fun q9 => absurd q9 ((fun z => q2 (nI_inj (by omega) (by decide) (show nI k = nI 2 from z)))))
          refine r_iconst (v := 1) (zdk oM_laid 87 rfl) (by decide) ?_
          refine r_goto (tgt := 139) (zdk oM_laid 88 rfl) (by decide) ?_
          rw [show (true && (!decide (k = 2) || decide (¬ xCm p c p = 0))) = true by simp [q2]] at fin
          exact fin
    | succ m ih =>
      intro p hp
      have ep : (nI p).toNatClampNeg = p := nI_clamp (by omega)
      have hs := xSt8 (np := np) (c := c) (p := p) hn
      have hb : xBc (xSt np c p) ≤ 3 := by unfold xBc; omega
      have fin : zMC false d 0 0 0 0 mM_laid K 111 [some (.inr (.inr 27)), some (.inl (nI np)), some (.inl (nI c)), some (.inl (nI k)), some (.inl (fBo (xAl np c k p))), some (.inl (nI (xCm np c (p + 1)))), some (.inl (nI p)), some (.inl (nI (xSt np c p))), some (.inl (nI (xBc (xSt np c p))))] [.inl (fBo (xAl np c k (p + 1)))] (zset h np c (p + 1)) := by
        refine r_istore (zdk oM_laid 77 rfl) (Nat.le_of_ble_eq_true rfl) rfl ?_
        first | refine r_iinc (zdk oM_laid 78 rfl) rfl (zinc _) rfl ?_ | refine r_iinc (zdk oM_laid 78 rfl) rfl rfl rfl ?_
        refine r_goto (tgt := 13) (zdk oM_laid 79 rfl) (by decide) ?_
        refine r_mask [true, true, true, true, true, true, true, false, false] rfl rfl ?_
        exact ih (p + 1) (by omega)
      rw [show xAl np c k (p + 1) = (xAl np c k p && ((!decide (k = 1) || decide (np < 2 * xBc (xSt np c p))) && (!decide (k = 3) || decide (2 * np < 3 * xBc (xSt np c p))))) from rfl] at fin
      refine r_iload (zdk oM_laid 10 rfl) rfl ?_
      refine r_iload_n (zdk oM_laid 11 rfl) rfl rfl ?_
      refine r_icmp_ge (tgt := 119) (zdk oM_laid 12 rfl) (by decide) (fun q9 => absurd q9 ((nI_ge (a := p) (b := np) (by omega) (by omega)))) (fun _ => ?_)
      refine r_iload_n (zdk oM_laid 13 rfl) rfl rfl ?_
      refine r_iload_n (zdk oM_laid 14 rfl) rfl rfl ?_
      refine r_iload_n (zdk oM_laid 15 rfl) rfl rfl ?_
      refine r_iconst (v := 1) (zdk oM_laid 16 rfl) (by decide) ?_
      refine r_isub (zdk oM_laid 17 rfl) ?_
      refine r_iload (zdk oM_laid 18 rfl) rfl ?_
      refine r_isub (zdk oM_laid 19 rfl) ?_
      refine r_imul (zdk oM_laid 20 rfl) ?_
      refine r_ishr (zdk oM_laid 21 rfl) ?_
      refine r_iconst (v := 1) (zdk oM_laid 22 rfl) (by decide) ?_
      refine r_iload_n (zdk oM_laid 23 rfl) rfl rfl ?_
      refine r_ishl (zdk oM_laid 24 rfl) ?_
      refine r_iconst (v := 1) (zdk oM_laid 25 rfl) (by decide) ?_
      refine r_isub (zdk oM_laid 26 rfl) ?_
      refine r_iand (zdk oM_laid 27 rfl) ?_
      refine r_tp (xSt_i hn hc (show p < np by omega)) ?_
      refine r_istore (zdk oM_laid 28 rfl) (Nat.le_of_ble_eq_true rfl) rfl ?_
      refine r_iload (zdk oM_laid 29 rfl) rfl ?_
      refine r_iconst (v := 1) (zdk oM_laid 30 rfl) (by decide) ?_
      refine r_iand (zdk oM_laid 31 rfl) ?_
      refine r_iload (zdk oM_laid 32 rfl) rfl ?_
      refine r_iconst (v := 1) (zdk oM_laid 33 rfl) (by decide) ?_
      refine r_ishr (zdk oM_laid 34 rfl) ?_
      refine r_iconst (v := 1) (zdk oM_laid 35 rfl) (by decide) ?_
      refine r_iand (zdk oM_laid 36 rfl) ?_
      refine r_iadd (zdk oM_laid 37 rfl) ?_
      refine r_iload (zdk oM_laid 38 rfl) rfl ?_
      refine r_iconst (v := 2) (zdk oM_laid 39 rfl) (by decide) ?_
      refine r_ishr (zdk oM_laid 40 rfl) ?_
      refine r_iconst (v := 1) (zdk oM_laid 41 rfl) (by decide) ?_
      refine r_iand (zdk oM_laid 42 rfl) ?_
      refine r_iadd (zdk oM_laid 43 rfl) ?_
      refine r_tp (xBc_i hs) ?_
      refine r_istore (zdk oM_laid 44 rfl) (Nat.le_of_ble_eq_true rfl) rfl ?_
      refine r_aload_n (zdk oM_laid 45 rfl) rfl rfl ?_
      refine r_getr (kf := 12) (zdk oM_laid 46 rfl) rfl rfl (by decide) lF_M_25 rfl ?_
      refine r_iload (zdk oM_laid 47 rfl) rfl ?_
      refine r_iload (zdk oM_laid 48 rfl) rfl ?_
      refine r_iast (zdk oM_laid 49 rfl) rfl (vp_in_nI (n := p) (by omega) (by decide)) ?_
      rw [ep, zset_s]
      refine r_iload (zdk oM_laid 50 rfl) rfl ?_
      refine r_iload (zdk oM_laid 51 rfl) rfl ?_
      refine r_iand (zdk oM_laid 52 rfl) ?_
      refine r_tp (nI_and8 (xCm8 (np := np) (c := c) hn p) hs) ?_
      refine r_istore (zdk oM_laid 53 rfl) (Nat.le_of_ble_eq_true rfl) rfl ?_
      refine r_iload (zdk oM_laid 54 rfl) rfl ?_
      cases hA : xAl np c k p with
      | false =>
        rw [hA] at fin
        refine r_if_eq (tgt := 110) (zdk oM_laid 55 rfl) (by decide) (fun _ => ?_) (fun q9 => absurd ((rfl)) q9)
        refine r_iconst (v := 0) (zdk oM_laid 76 rfl) (by decide) ?_
        exact fin
      | true =>
        rw [hA] at fin
        refine r_if_eq (tgt := 110) (zdk oM_laid 55 rfl) (by decide) (fun q9 => absurd q9 ((fBo_t))) (fun _ => ?_)
        have two : (¬ (k = 1 ∧ 2 * xBc (xSt np c p) ≤ np)) → zMC false d 0 0 0 0 mM_laid K 91 [some (.inr (.inr 27)), some (.inl (nI np)), some (.inl (nI c)), some (.inl (nI k)), some (.inl (fBo true)), some (.inl (nI (xCm np c (p + 1)))), some (.inl (nI p)), some (.inl (nI (xSt np c p))), some (.inl (nI (xBc (xSt np c p))))] [] (zset h np c (p + 1)) := by
          intro c1
          refine r_iload_n (zdk oM_laid 64 rfl) rfl rfl ?_
          refine r_iconst (v := 3) (zdk oM_laid 65 rfl) (by decide) ?_
          by_cases q3 : k = 3
          · refine r_icmp_ne (tgt := 106) (zdk oM_laid 66 rfl) (by decide) (fun q9 => absurd ((show nI k = 3 by rw [q3]; rfl)) q9) (fun _ => ?_)
            refine r_iconst (v := 3) (zdk oM_laid 67 rfl) (by decide) ?_
            refine r_iload (zdk oM_laid 68 rfl) rfl ?_
            refine r_imul (zdk oM_laid 69 rfl) ?_
            refine r_tp (pk_mul 3 (xBc (xSt np c p))) ?_
            refine r_iconst (v := 2) (zdk oM_laid 70 rfl) (by decide) ?_
            refine r_iload_n (zdk oM_laid 71 rfl) rfl rfl ?_
            refine r_imul (zdk oM_laid 72 rfl) ?_
            refine r_tp (pk_mul 2 np) ?_
            by_cases q4 : 3 * xBc (xSt np c p) ≤ 2 * np
            · refine r_icmp_le (tgt := 110) (zdk oM_laid 73 rfl) (by decide) (fun _ => ?_) (fun q9 => absurd ((nI_lel q4 (by omega))) q9)
              refine r_iconst (v := 0) (zdk oM_laid 76 rfl) (by decide) ?_
              rw [show (true && ((!decide (k = 1) || decide (np < 2 * xBc (xSt np c p))) && (!decide (k = 3) || decide (2 * np < 3 * xBc (xSt np c p))))) = false by simp [q3]; omega] at fin
              exact fin
            · refine r_icmp_le (tgt := 110) (zdk oM_laid 73 rfl) (by decide) (fun q9 => absurd q9 ((nI_ge (a := 2 * np) (b := 3 * xBc (xSt np c p)) (by omega) (by omega)))) (fun _ => ?_)
              refine r_iconst (v := 1) (zdk oM_laid 74 rfl) (by decide) ?_
              refine r_goto (tgt := 111) (zdk oM_laid 75 rfl) (by decide) ?_
              rw [show (true && ((!decide (k = 1) || decide (np < 2 * xBc (xSt np c p))) && (!decide (k = 3) || decide (2 * np < 3 * xBc (xSt np c p))))) = true by simp [q3]; omega] at fin
              exact fin
          · refine r_icmp_ne (tgt := 106) (zdk oM_laid 66 rfl) (by decide) (fun _ => ?_) (fun q9 => absurd q9 ((fun z => q3 (nI_inj (by omega) (by decide) (show nI k = nI 3 from z)))))
            refine r_iconst (v := 1) (zdk oM_laid 74 rfl) (by decide) ?_
            refine r_goto (tgt := 111) (zdk oM_laid 75 rfl) (by decide) ?_
            rw [show (true && ((!decide (k = 1) || decide (np < 2 * xBc (xSt np c p))) && (!decide (k = 3) || decide (2 * np < 3 * xBc (xSt np c p))))) = true by simp [q3]; omega] at fin
            exact fin
        refine r_iload_n (zdk oM_laid 56 rfl) rfl rfl ?_
        refine r_iconst (v := 1) (zdk oM_laid 57 rfl) (by decide) ?_
        by_cases q1 : k = 1
        · refine r_icmp_ne (tgt := 91) (zdk oM_laid 58 rfl) (by decide) (fun q9 => absurd ((show nI k = 1 by rw [q1]; rfl)) q9) (fun _ => ?_)
          refine r_iconst (v := 2) (zdk oM_laid 59 rfl) (by decide) ?_
          refine r_iload (zdk oM_laid 60 rfl) rfl ?_
          refine r_imul (zdk oM_laid 61 rfl) ?_
          refine r_tp (pk_mul 2 (xBc (xSt np c p))) ?_
          refine r_iload_n (zdk oM_laid 62 rfl) rfl rfl ?_
          by_cases q4 : 2 * xBc (xSt np c p) ≤ np
          · refine r_icmp_le (tgt := 110) (zdk oM_laid 63 rfl) (by decide) (fun _ => ?_) (fun q9 => absurd ((nI_lel q4 (by omega))) q9)
            refine r_iconst (v := 0) (zdk oM_laid 76 rfl) (by decide) ?_
            rw [show (true && ((!decide (k = 1) || decide (np < 2 * xBc (xSt np c p))) && (!decide (k = 3) || decide (2 * np < 3 * xBc (xSt np c p))))) = false by simp [q1]; omega] at fin
            exact fin
          · refine r_icmp_le (tgt := 110) (zdk oM_laid 63 rfl) (by decide) (fun q9 => absurd q9 ((nI_ge (a := np) (b := 2 * xBc (xSt np c p)) (by omega) (by omega)))) (fun _ => ?_)
            exact two (by omega)
        · refine r_icmp_ne (tgt := 91) (zdk oM_laid 58 rfl) (by decide) (fun _ => ?_) (fun q9 => absurd q9 ((fun z => q1 (nI_inj (by omega) (by decide) (show nI k = nI 1 from z)))))
          exact two (by omega)
  refine zmet (by decide +kernel) (Nat.le_of_ble_eq_true rfl) ?_
  refine r_iconst (v := 1) (zdk oM_laid 0 rfl) (by decide) ?_
  refine r_istore (zdk oM_laid 1 rfl) (Nat.le_of_ble_eq_true rfl) rfl ?_
  refine r_iconst (v := 1) (zdk oM_laid 2 rfl) (by decide) ?_
  refine r_iload_n (zdk oM_laid 3 rfl) rfl rfl ?_
  refine r_ishl (zdk oM_laid 4 rfl) ?_
  refine r_iconst (v := 1) (zdk oM_laid 5 rfl) (by decide) ?_
  refine r_isub (zdk oM_laid 6 rfl) ?_
  refine r_tp (zall (np := np) (by omega)) ?_
  refine r_istore (zdk oM_laid 7 rfl) (Nat.le_of_ble_eq_true rfl) rfl ?_
  refine r_iconst (v := 0) (zdk oM_laid 8 rfl) (by decide) ?_
  refine r_istore (zdk oM_laid 9 rfl) (Nat.le_of_ble_eq_true rfl) rfl ?_
  have l0 := loop np 0 (by omega)
  rw [zset_0] at l0
  exact l0
