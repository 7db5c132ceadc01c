/-! the reference's numbers of states -/
theorem nJ_push {c s : Nat} (hs : s < 16) : (nJ c <<< ((4 : Int32).toInt64 &&& 63)) ||| (nI s).toInt64 = nJ (c * 16 + s) := by
  rw [show (4 : Int32) = nI 4 from rfl, nJ_shl c 4 (by decide), nJ_i2l (by omega), nJ_or]
  congr 1
  have := Nat.shiftLeft_add_eq_or_of_lt (b := s) (i := 4) hs c
  rw [Nat.shiftLeft_eq] at this
  exact this.symm
theorem zm1 (k : Nat) : nI k + Int32.ofInt (-1) = nI k - 1 := by rw [Int32.sub_eq_add_neg]; rfl
theorem zm1s (k : Nat) : nI (k + 1) - 1 = nI k := by rw [show (1 : Int32) = nI 1 from rfl, pk_sub (by omega)]; rfl
theorem zm1n : nI 0 - 1 < 0 := by decide
theorem zm1p {k : Nat} (hk : k < 2 ^ 31) : ¬ nI k < 0 := by
  rcases Nat.eq_zero_or_pos k with q | q
  · subst q; decide
  · exact Int32.not_lt.mpr (Int32.le_of_lt (Int32.not_le.mp (nI_ge (a := 0) (b := k) q hk)))
theorem spM_code (d : Nat) (h : zH) (np vars g : Nat) (s : Nat → Nat) (k8 : h.1 27 8 = nI vars) (hn : np ≤ 3) (v5 : vars ≤ 5) (hg : g < 8) (hs : ∀ p v, p < np → v < vars → s (5 * p + v) < 16 ∧ h.1 34 (5 * p + v) = nI (s (5 * p + v))) :
    zSP d 0 0 mM_code [.inr (.inr 27), .inl (nI np), .inl (nI g)] h (zJ (nJ (xRc (fun t => s (xT vars t)) g (np * vars))) h) := by
  suffices main : ∀ K : zR → zH → Prop, K (.inl (some (.inr (.inl (nJ (xRc (fun t => s (xT vars t)) g (np * vars))))))) h → zSP d 0 0 mM_code [.inr (.inr 27), .inl (nI np), .inl (nI g)] h K from main _ (zJi rfl)
  intro K hK
  have outer : ∀ (k p : Nat) (x : Option zV), p + k = np →
      zMC false d 0 0 0 0 mM_code K 6 [some (.inr (.inr 27)), some (.inl (nI np)), some (.inl (nI g)), some (.inr (.inl (nJ (xRc (fun t => s (xT vars t)) g (p * vars))))), none, some (.inl (nI p)), none] [] h := by
    intro k
    induction k with
    | zero =>
      intro p x hp
      have e : p = np := by omega
      subst e
      refine r_iload (zdk oM_code 5 rfl) rfl ?_
      refine r_iload_n (zdk oM_code 6 rfl) rfl rfl ?_
      refine r_icmp_ge (tgt := 54) (zdk oM_code 7 rfl) (by decide) (fun _ => ?_) (fun q9 => absurd ((Int32.le_refl (nI p))) q9)
      refine r_lload_n (zdk oM_code 32 rfl) rfl rfl ?_
      refine r_lret (zdk oM_code 33 rfl) rfl ?_
      exact hK
    | succ k ih =>
      intro p x hp
      have inner : ∀ (k2 v : Nat), v + k2 = vars →
          zMC false d 0 0 0 0 mM_code K 15 [some (.inr (.inr 27)), some (.inl (nI np)), some (.inl (nI g)), some (.inr (.inl (nJ (xRc (fun t => s (xT vars t)) g (p * vars + v))))), none, some (.inl (nI p)), some (.inl (nI v))] [] h := by
        intro k2
        induction k2 with
        | zero =>
          intro v hv
          have e : v = vars := by omega
          subst e
          refine r_iload (zdk oM_code 10 rfl) rfl ?_
          refine r_aload_n (zdk oM_code 11 rfl) rfl rfl ?_
          refine r_geti (kf := 8) (zdk oM_code 12 rfl) rfl rfl (by decide) lF_M_113 rfl ?_
          rw [k8]
          refine r_icmp_ge (tgt := 48) (zdk oM_code 13 rfl) (by decide) (fun _ => ?_) (fun q9 => absurd ((Int32.le_refl (nI v))) q9)
          first | refine r_iinc (zdk oM_code 30 rfl) rfl (zinc _) rfl ?_ | refine r_iinc (zdk oM_code 30 rfl) rfl rfl rfl ?_
          refine r_goto (tgt := 6) (zdk oM_code 31 rfl) (by decide) ?_
          refine r_mask [true, true, true, true, true, true, false] rfl rfl ?_
          have i0 := ih (p + 1) none (by omega)
          rw [Nat.succ_mul] at i0
          exact i0
        | succ k2 ih2 =>
          intro v hv
          obtain ⟨s1, s2⟩ := hs p v (by omega) (by omega)
          refine r_iload (zdk oM_code 10 rfl) rfl ?_
          refine r_aload_n (zdk oM_code 11 rfl) rfl rfl ?_
          refine r_geti (kf := 8) (zdk oM_code 12 rfl) rfl rfl (by decide) lF_M_113 rfl ?_
          rw [k8]
          refine r_icmp_ge (tgt := 48) (zdk oM_code 13 rfl) (by decide) (fun q9 => absurd q9 ((nI_ge (a := v) (b := vars) (by omega) (by omega)))) (fun _ => ?_)
          refine r_lload_n (zdk oM_code 14 rfl) rfl rfl ?_
          refine r_iconst (v := 4) (zdk oM_code 15 rfl) (by decide) ?_
          refine r_lshl (zdk oM_code 16 rfl) ?_
          refine r_aload_n (zdk oM_code 17 rfl) rfl rfl ?_
          refine r_getr (kf := 13) (zdk oM_code 18 rfl) rfl rfl (by decide) lF_M_28 rfl ?_
          refine r_iconst (v := 5) (zdk oM_code 19 rfl) (by decide) ?_
          refine r_iload (zdk oM_code 20 rfl) rfl ?_
          refine r_imul (zdk oM_code 21 rfl) ?_
          refine r_tp (pk_mul 5 p) ?_
          refine r_iload (zdk oM_code 22 rfl) rfl ?_
          refine r_iadd (zdk oM_code 23 rfl) ?_
          refine r_tp (nI_add (5 * p) v) ?_
          refine r_iald (zdk oM_code 24 rfl) rfl (vp_in_nI (n := 5 * p + v) (by omega) (by decide)) ?_
          rw [nI_clamp (n := 5 * p + v) (by omega), s2]
          refine r_i2l (zdk oM_code 25 rfl) ?_
          refine r_lor (zdk oM_code 26 rfl) ?_
          rw [nJ_push s1]
          refine r_lstore_n (zdk oM_code 27 rfl) rfl (Nat.le_of_ble_eq_true rfl) rfl ?_
          first | refine r_iinc (zdk oM_code 28 rfl) rfl (zinc _) rfl ?_ | refine r_iinc (zdk oM_code 28 rfl) rfl rfl rfl ?_
          refine r_goto (tgt := 15) (zdk oM_code 29 rfl) (by decide) ?_
          have i0 := ih2 (v + 1) (by omega)
          rw [show p * vars + (v + 1) = p * vars + v + 1 by omega] at i0
          rw [show xRc (fun t => s (xT vars t)) g (p * vars + v + 1) = xRc (fun t => s (xT vars t)) g (p * vars + v) * 16 + s (xT vars (p * vars + v)) from rfl, xT_pv (by omega)] at i0
          exact i0
      refine r_iload (zdk oM_code 5 rfl) rfl ?_
      refine r_iload_n (zdk oM_code 6 rfl) rfl rfl ?_
      refine r_icmp_ge (tgt := 54) (zdk oM_code 7 rfl) (by decide) (fun q9 => absurd q9 ((nI_ge (a := p) (b := np) (by omega) (by omega)))) (fun _ => ?_)
      refine r_iconst (v := 0) (zdk oM_code 8 rfl) (by decide) ?_
      refine r_istore (zdk oM_code 9 rfl) (Nat.le_of_ble_eq_true rfl) rfl ?_
      exact inner vars 0 (by omega)
  refine zmet (by decide +kernel) (Nat.le_of_ble_eq_true rfl) ?_
  refine r_iload_n (zdk oM_code 0 rfl) rfl rfl ?_
  refine r_i2l (zdk oM_code 1 rfl) ?_
  rw [nJ_i2l (a := g) (by omega)]
  refine r_lstore_n (zdk oM_code 2 rfl) rfl (Nat.le_of_ble_eq_true rfl) rfl ?_
  refine r_iconst (v := 0) (zdk oM_code 3 rfl) (by decide) ?_
  refine r_istore (zdk oM_code 4 rfl) (Nat.le_of_ble_eq_true rfl) rfl ?_
  have o0 := outer np 0 none (by omega)
  rw [Nat.zero_mul] at o0
  exact o0
theorem spM_decode (d : Nat) (h : zH) (np vars g : Nat) (f : Nat → Nat) (k8 : h.1 27 8 = nI vars) (hn : np ≤ 3) (v5 : vars ≤ 5) (hg : g < 8) (hf : ∀ j, j < np * vars → f j < 16) :
    zSP d 0 0 mM_decode [.inr (.inr 27), .inl (nI np), .inr (.inl (nJ (xRc f g (np * vars))))] h (fun r h' => r = .inl none ∧ (∀ p v, p < np → v < vars → h'.1 34 (5 * p + v) = nI (f (p * vars + v))) ∧ (∀ a j, a ≠ 34 → h'.1 a j = h.1 a j) ∧ h'.2 = h.2) := by
  suffices main : ∀ K : zR → zH → Prop, (∀ h', (∀ p v, p < np → v < vars → h'.1 34 (5 * p + v) = nI (f (p * vars + v))) → (∀ a j, a ≠ 34 → h'.1 a j = h.1 a j) → h'.2 = h.2 → K (.inl none) h') → zSP d 0 0 mM_decode [.inr (.inr 27), .inl (nI np), .inr (.inl (nJ (xRc f g (np * vars))))] h K from main _ (fun h' a b c => ⟨rfl, a, b, c⟩)
  intro K hK
  have hT : np * vars ≤ 15 := Nat.le_trans (Nat.mul_le_mul hn v5) (by decide)
  generalize hC : nJ (xRc f g (np * vars)) = C0
  have outer : ∀ (k : Nat) (H : zH), k ≤ np → (∀ p v, k ≤ p → p < np → v < vars → H.1 34 (5 * p + v) = nI (f (p * vars + v))) → (∀ a j, a ≠ 34 → H.1 a j = h.1 a j) → H.2 = h.2 →
      zMC false d 0 0 0 0 mM_decode K 8 [some (.inr (.inr 27)), some (.inl (nI np)), some (.inr (.inl C0)), none, some (.inr (.inl (nJ (xRc f g (k * vars))))), none, some (.inl (nI k - 1)), none] [] H := by
    intro k
    induction k with
    | zero =>
      intro H hk hd ho hl
      refine r_iload (zdk oM_decode 6 rfl) rfl ?_
      refine r_if_lt (tgt := 63) (zdk oM_decode 7 rfl) (by decide) (fun _ => ?_) (fun q9 => absurd (zm1n) q9)
      refine r_vret (zdk oM_decode 35 rfl) rfl ?_
      exact hK H (fun p v hp hv => hd p v (Nat.zero_le p) hp hv) ho hl
    | succ k ih =>
      intro H hk hd ho hl
      rw [zm1s]
      have inner : ∀ (v : Nat) (H2 : zH), v ≤ vars → (∀ p v, k + 1 ≤ p → p < np → v < vars → H2.1 34 (5 * p + v) = nI (f (p * vars + v))) → (∀ v', v ≤ v' → v' < vars → H2.1 34 (5 * k + v') = nI (f (k * vars + v'))) → (∀ a j, a ≠ 34 → H2.1 a j = h.1 a j) → H2.2 = h.2 →
          zMC false d 0 0 0 0 mM_decode K 21 [some (.inr (.inr 27)), some (.inl (nI np)), some (.inr (.inl C0)), none, some (.inr (.inl (nJ (xRc f g (k * vars + v))))), none, some (.inl (nI k)), some (.inl (nI v - 1))] [] H2 := by
        intro v
        induction v with
        | zero =>
          intro H2 hv d1 d2 o2 l2
          refine r_iload (zdk oM_decode 13 rfl) rfl ?_
          refine r_if_lt (tgt := 57) (zdk oM_decode 14 rfl) (by decide) (fun _ => ?_) (fun q9 => absurd (zm1n) q9)
          refine r_iinc (zdk oM_decode 33 rfl) rfl (zm1 k) rfl ?_
          refine r_goto (tgt := 8) (zdk oM_decode 34 rfl) (by decide) ?_
          refine r_mask [true, true, true, true, true, true, true, false] rfl rfl ?_
          refine ih H2 (by omega) ?_ o2 l2
          intro p v hp hpn hv'
          by_cases q : p = k
          · subst q; exact d2 v (Nat.zero_le v) hv'
          · exact d1 p v (by omega) hpn hv'
        | succ v ih2 =>
          intro H2 hv d1 d2 o2 l2
          have ht : k * vars + v < np * vars := xpv (by omega) (by omega)
          rw [zm1s]
          refine r_iload (zdk oM_decode 13 rfl) rfl ?_
          refine r_if_lt (tgt := 57) (zdk oM_decode 14 rfl) (by decide) (fun q9 => absurd q9 ((zm1p (k := v) (by omega)))) (fun _ => ?_)
          refine r_aload_n (zdk oM_decode 15 rfl) rfl rfl ?_
          refine r_getr (kf := 13) (zdk oM_decode 16 rfl) rfl rfl (by decide) lF_M_28 rfl ?_
          refine r_iconst (v := 5) (zdk oM_decode 17 rfl) (by decide) ?_
          refine r_iload (zdk oM_decode 18 rfl) rfl ?_
          refine r_imul (zdk oM_decode 19 rfl) ?_
          refine r_tp (pk_mul 5 k) ?_
          refine r_iload (zdk oM_decode 20 rfl) rfl ?_
          refine r_iadd (zdk oM_decode 21 rfl) ?_
          refine r_tp (nI_add (5 * k) v) ?_
          refine r_lload (zdk oM_decode 22 rfl) rfl ?_
          refine r_ldc2 (zdk oM_decode 23 rfl) lD_M_183 ?_
          refine r_land (zdk oM_decode 24 rfl) ?_
          rw [nJ_15, show k * vars + (v + 1) = k * vars + v + 1 by omega, show xRc f g (k * vars + v + 1) % 16 = f (k * vars + v) by
            have := xRc_dig (f := f) (g := g) (t := k * vars + v) (k := 0) (fun j hj => hf j (by omega))
            simpa using this]
          refine r_l2i (zdk oM_decode 25 rfl) ?_
          rw [nJ_l2i]
          refine r_iast (zdk oM_decode 26 rfl) rfl (vp_in_nI (n := 5 * k + v) (by omega) (by decide)) ?_
          refine r_lload (zdk oM_decode 27 rfl) rfl ?_
          refine r_iconst (v := 4) (zdk oM_decode 28 rfl) (by decide) ?_
          refine r_lshr (zdk oM_decode 29 rfl) ?_
          rw [nI_clamp (n := 5 * k + v) (by omega)]
          rw [show (4 : Int32) = nI 4 from rfl, nJ_shr _ 4 (xRc_lt63 hg (fun j hj => hf j (by omega)) (by omega)) (by decide), show xRc f g (k * vars + v + 1) / 2 ^ 4 = xRc f g (k * vars + v) by
            have := xRc_div (f := f) (g := g) (t := k * vars + v) 1 (fun j hj => hf j (by omega))
            simpa using this]
          refine r_lstore (zdk oM_decode 30 rfl) (Nat.le_of_ble_eq_true rfl) rfl ?_
          refine r_iinc (zdk oM_decode 31 rfl) rfl (zm1 v) rfl ?_
          refine r_goto (tgt := 21) (zdk oM_decode 32 rfl) (by decide) ?_
          refine ih2 _ (by omega) ?_ ?_ ?_ ?_
          · intro p v' hp hpn hv'
            rw [zp1, if_neg (by omega)]; exact d1 p v' hp hpn hv'
          · intro v' h1 h2
            rw [zp1]
            by_cases q : v' = v
            · rw [if_pos ⟨rfl, by omega⟩, q]
            · rw [if_neg (by omega)]; exact d2 v' (by omega) h2
          · intro a j ha
            rw [zp1, if_neg (fun z => ha z.1)]; exact o2 a j ha
          · exact l2
      refine r_iload (zdk oM_decode 6 rfl) rfl ?_
      refine r_if_lt (tgt := 63) (zdk oM_decode 7 rfl) (by decide) (fun q9 => absurd q9 ((zm1p (k := k) (by omega)))) (fun _ => ?_)
      refine r_aload_n (zdk oM_decode 8 rfl) rfl rfl ?_
      refine r_geti (kf := 8) (zdk oM_decode 9 rfl) rfl rfl (by decide) lF_M_113 rfl ?_
      rw [show H.1 27 8 = nI vars by rw [ho 27 8 (by decide), k8]]
      refine r_iconst (v := 1) (zdk oM_decode 10 rfl) (by decide) ?_
      refine r_isub (zdk oM_decode 11 rfl) ?_
      refine r_istore (zdk oM_decode 12 rfl) (Nat.le_of_ble_eq_true rfl) rfl ?_
      have i0 := inner vars H (Nat.le_refl _) (fun p v hp hpn hv => hd p v hp hpn hv) (fun v' h1 h2 => by omega) ho hl
      rw [← Nat.succ_mul] at i0
      exact i0
  refine zmet (by decide +kernel) (Nat.le_of_ble_eq_true rfl) ?_
  refine r_lload_n (zdk oM_decode 0 rfl) rfl rfl ?_
  refine r_lstore (zdk oM_decode 1 rfl) (Nat.le_of_ble_eq_true rfl) rfl ?_
  refine r_iload_n (zdk oM_decode 2 rfl) rfl rfl ?_
  refine r_iconst (v := 1) (zdk oM_decode 3 rfl) (by decide) ?_
  refine r_isub (zdk oM_decode 4 rfl) ?_
  refine r_istore (zdk oM_decode 5 rfl) (Nat.le_of_ble_eq_true rfl) rfl ?_
  have o0 := outer np h (Nat.le_refl _) (fun p v h1 h2 => by omega) (fun _ _ _ => rfl) rfl
  rw [hC] at o0
  exact o0
