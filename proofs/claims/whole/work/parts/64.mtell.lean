/-! the run to a violation is told -/
def wI (pa : Nat → Int32) (co : Nat → Nat) (i c : Nat) : Nat → Int32 × Nat
  | 0 => (nI i, c)
  | k + 1 => (pa (wI pa co i c k).1.toNatClampNeg, co (wI pa co i c k).1.toNatClampNeg)
theorem xnp {np r p r' p' : Nat} (h1 : 1 ≤ np) (h3 : np ≤ 3) (hp : p < np) (hp' : p' < np) (e : np * r + p = np * r' + p') : r = r' ∧ p = p' := by
  have : np = 1 ∨ np = 2 ∨ np = 3 := by omega
  rcases this with rfl | rfl | rfl <;> omega
theorem xnp_lt {np r p : Nat} (h3 : np ≤ 3) (hr : r ≤ 5) (hp : p < np) : np * r + p < 18 := by
  have h := Nat.mul_le_mul h3 hr
  omega
theorem xnp_le {np r p : Nat} (h1 : 1 ≤ np) (h3 : np ≤ 3) (hr : 1 ≤ r) : np ≤ np * r + p := by
  have h := Nat.mul_le_mul_left np hr
  omega
def zTold (h : zH) (pa : Nat → Int32) (co : Nat → Nat) (np i c R : Nat) (h' : zH) : Prop := h'.1 27 26 = nI R ∧ h'.1 27 27 = nI (np * (R + 1)) ∧ (∀ r p, 1 ≤ r → r ≤ R → p < np → h'.1 43 (np * r + p) = nI (xSt np (wI pa co i c (R - r)).2 p)) ∧ (∀ p, p < np → h'.1 43 p = nI ((wI pa co i c R).2 / 4 ^ (np - 1 - p) % 4)) ∧ (∀ a j, ¬ (a = 27 ∧ (j = 26 ∨ j = 27)) → a ≠ 33 → a ≠ 43 → h'.1 a j = h.1 a j) ∧ h'.2 = h.2
theorem spM_tell (d : Nat) (h : zH) (pa : Nat → Int32) (co : Nat → Nat) (np i c R : Nat) (n1 : 1 ≤ np) (n3 : np ≤ 3) (hR : R ≤ 5) (hw : ∀ k, k < R → ∃ q, q < 200 ∧ (wI pa co i c k).1 = nI q ∧ h.1 40 q = pa q ∧ h.1 41 q = nI (co q)) (hc : ∀ k, k ≤ R → (wI pa co i c k).2 < 512) :
    zSP (d + 1) 0 0 mM_tell [.inr (.inr 27), .inl (nI np), .inl (nI i), .inl (nI c), .inl (nI R)] h (fun r h' => r = .inl none ∧ zTold h pa co np i c R h') := by
  suffices main : ∀ K : zR → zH → Prop, (∀ h', zTold h pa co np i c R h' → K (.inl none) h') → zSP (d + 1) 0 0 mM_tell [.inr (.inr 27), .inl (nI np), .inl (nI i), .inl (nI c), .inl (nI R)] h K from main _ (fun h' q => ⟨rfl, q⟩)
  intro K hK
  -- the last loop: the inputs
  have last : ∀ (k : Nat) (H : zH), k ≤ np → H.1 27 26 = nI R → H.1 27 27 = nI (np * (R + 1)) → (∀ r p, 1 ≤ r → r ≤ R → p < np → H.1 43 (np * r + p) = nI (xSt np (wI pa co i c (R - r)).2 p)) → (∀ p, k ≤ p → p < np → H.1 43 p = nI ((wI pa co i c R).2 / 4 ^ (np - 1 - p) % 4)) → (∀ a j, ¬ (a = 27 ∧ (j = 26 ∨ j = 27)) → a ≠ 33 → a ≠ 43 → H.1 a j = h.1 a j) → H.2 = h.2 →
      zMC false (d + 1) 0 0 0 0 mM_tell K 108 [some (.inr (.inr 27)), some (.inl (nI np)), some (.inl (nI i)), some (.inl (nI c)), some (.inl (nI R)), none, none, some (.inl (nI ((wI pa co i c R).2 / 4 ^ (np - k)))), some (.inl (nI k - 1)), none] [] H := by
    intro k
    induction k with
    | zero =>
      intro H hk e1 e2 e3 e4 ho hl
      refine r_iload (zdk oM_tell 61 rfl) rfl ?_
      refine r_if_lt (tgt := 136) (zdk oM_tell 62 rfl) (by decide) (fun _ => ?_) (fun q9 => absurd (zm1n) q9)
      refine r_vret (zdk oM_tell 76 rfl) rfl ?_
      exact hK H ⟨e1, e2, e3, fun p hp => e4 p (Nat.zero_le p) hp, ho, hl⟩
    | succ k ih =>
      intro H hk e1 e2 e3 e4 ho hl
      have hb := hc R (Nat.le_refl R)
      have hb2 : (wI pa co i c R).2 / 4 ^ (np - (k + 1)) < 512 := Nat.lt_of_le_of_lt (Nat.div_le_self _ _) hb
      rw [zm1s]
      refine r_iload (zdk oM_tell 61 rfl) rfl ?_
      refine r_if_lt (tgt := 136) (zdk oM_tell 62 rfl) (by decide) (fun q9 => absurd q9 ((zm1p (k := k) (by omega)))) (fun _ => ?_)
      refine r_aload_n (zdk oM_tell 63 rfl) rfl rfl ?_
      refine r_getr (kf := 28) (zdk oM_tell 64 rfl) rfl rfl (by decide) lF_M_60 rfl ?_
      refine r_iload (zdk oM_tell 65 rfl) rfl ?_
      refine r_iload (zdk oM_tell 66 rfl) rfl ?_
      refine r_iconst (v := 4) (zdk oM_tell 67 rfl) (by decide) ?_
      refine r_irem (zdk oM_tell 68 rfl) (show ¬ (4 : Int32) = 0 by decide) ?_
      refine r_tp (pk_rem (a := (wI pa co i c R).2 / 4 ^ (np - (k + 1))) (d := 4) (by omega) (by decide) (by omega)) ?_
      refine r_iast (zdk oM_tell 69 rfl) rfl (vp_in_nI (n := k) (by omega) (by decide)) ?_
      refine r_iload (zdk oM_tell 70 rfl) rfl ?_
      refine r_iconst (v := 4) (zdk oM_tell 71 rfl) (by decide) ?_
      rw [nI_clamp (n := k) (by omega)]
      refine r_idiv (zdk oM_tell 72 rfl) (show ¬ (4 : Int32) = 0 by decide) ?_
      refine r_tp (show nI ((wI pa co i c R).2 / 4 ^ (np - (k + 1))) / 4 = nI ((wI pa co i c R).2 / 4 ^ (np - (k + 1)) / 4) from pk_div (d := 4) (by omega) (by decide) (by omega)) ?_
      rw [show (wI pa co i c R).2 / 4 ^ (np - (k + 1)) / 4 = (wI pa co i c R).2 / 4 ^ (np - k) by rw [Nat.div_div_eq_div_mul, ← Nat.pow_succ, show (np - (k + 1)).succ = np - k by omega]]
      refine r_istore (zdk oM_tell 73 rfl) (Nat.le_of_ble_eq_true rfl) rfl ?_
      refine r_iinc (zdk oM_tell 74 rfl) rfl (zm1 k) rfl ?_
      refine r_goto (tgt := 108) (zdk oM_tell 75 rfl) (by decide) ?_
      refine ih _ (by omega) ?_ ?_ ?_ ?_ ?_ hl
      · rw [zp1, if_neg (by omega), e1]
      · rw [zp1, if_neg (by omega), e2]
      · intro r p r1 r2 hp
        have := xnp_le (p := p) n1 n3 r1
        rw [zp1, if_neg (by omega)]; exact e3 r p r1 r2 hp
      · intro p p1 p2
        rw [zp1]
        by_cases q : p = k
        · rw [if_pos ⟨rfl, q⟩, q, show np - (k + 1) = np - 1 - k by omega]
        · rw [if_neg (by omega)]; exact e4 p (by omega) p2
      · intro a j c1 c2 c3
        rw [zp1, if_neg (fun z => c3 z.1)]; exact ho a j c1 c2 c3
  -- the rounds, from the last one
  have outer : ∀ (r k : Nat) (H : zH), r + k = R → H.1 27 26 = nI R → H.1 27 27 = nI (np * (R + 1)) → (∀ r' p, r < r' → r' ≤ R → p < np → H.1 43 (np * r' + p) = nI (xSt np (wI pa co i c (R - r')).2 p)) → (∀ a j, ¬ (a = 27 ∧ (j = 26 ∨ j = 27)) → a ≠ 33 → a ≠ 43 → H.1 a j = h.1 a j) → H.2 = h.2 →
      zMC false (d + 1) 0 0 0 0 mM_tell K 26 [some (.inr (.inr 27)), some (.inl (nI np)), some (.inl (nI i)), some (.inl (nI c)), some (.inl (nI R)), some (.inl (nI (wI pa co i c k).2)), some (.inl (wI pa co i c k).1), some (.inl (nI r)), none, none] [] H := by
    intro r
    induction r with
    | zero =>
      intro k H hr e1 e2 e3 ho hl
      have e : k = R := by omega
      subst e
      refine r_iload (zdk oM_tell 16 rfl) rfl ?_
      refine r_if_le (tgt := 99) (zdk oM_tell 17 rfl) (by decide) (fun _ => ?_) (fun q9 => absurd ((nI_z (x := 0) rfl)) q9)
      refine r_iload (zdk oM_tell 55 rfl) rfl ?_
      refine r_istore (zdk oM_tell 56 rfl) (Nat.le_of_ble_eq_true rfl) rfl ?_
      refine r_iload_n (zdk oM_tell 57 rfl) rfl rfl ?_
      refine r_iconst (v := 1) (zdk oM_tell 58 rfl) (by decide) ?_
      refine r_isub (zdk oM_tell 59 rfl) ?_
      refine r_istore (zdk oM_tell 60 rfl) (Nat.le_of_ble_eq_true rfl) rfl ?_
      have l0 := last np H (Nat.le_refl _) e1 e2 (fun r p r1 r2 hp => e3 r p (by omega) r2 hp) (fun p p1 p2 => by omega) ho hl
      rw [Nat.sub_self, Nat.pow_zero, Nat.div_one] at l0
      refine r_mask [true, true, true, true, true, false, false, true, true, false] rfl rfl ?_
      exact l0
    | succ r ih =>
      intro k H hr e1 e2 e3 ho hl
      obtain ⟨q, q1, q2, q3, q4⟩ := hw k (by omega)
      have hb := hc k (by omega)
      refine r_iload (zdk oM_tell 16 rfl) rfl ?_
      refine r_if_le (tgt := 99) (zdk oM_tell 17 rfl) (by decide) (fun q9 => absurd q9 ((nI_nz (x := r + 1) (by omega) (by omega)))) (fun _ => ?_)
      refine r_aload_n (zdk oM_tell 18 rfl) rfl rfl ?_
      refine r_iload_n (zdk oM_tell 19 rfl) rfl rfl ?_
      refine r_iload (zdk oM_tell 20 rfl) rfl ?_
      refine r_iconst (v := 0) (zdk oM_tell 21 rfl) (by decide) ?_
      refine r_callV3i (M' := mM_laid) (zdk oM_tell 22 rfl) lM_M_191 vM_laid rfl rfl (Nat.le_of_ble_eq_true rfl) rfl (spM_laid d H np (wI pa co i c k).2 0 n3 hb (by decide)) ?_
      refine r_istore (zdk oM_tell 23 rfl) (Nat.le_of_ble_eq_true rfl) rfl ?_
      refine r_iconst (v := 0) (zdk oM_tell 24 rfl) (by decide) ?_
      refine r_istore (zdk oM_tell 25 rfl) (Nat.le_of_ble_eq_true rfl) rfl ?_
      have inner : ∀ (m p : Nat) (H2 : zH), p + m = np → (∀ j, j < np → H2.1 33 j = nI (xSt np (wI pa co i c k).2 j)) → H2.1 27 26 = nI R → H2.1 27 27 = nI (np * (R + 1)) → (∀ r' p, r + 1 < r' → r' ≤ R → p < np → H2.1 43 (np * r' + p) = nI (xSt np (wI pa co i c (R - r')).2 p)) → (∀ p', p' < p → H2.1 43 (np * (r + 1) + p') = nI (xSt np (wI pa co i c k).2 p')) → (∀ a j, ¬ (a = 27 ∧ (j = 26 ∨ j = 27)) → a ≠ 33 → a ≠ 43 → H2.1 a j = h.1 a j) → H2.2 = h.2 →
          zMC false (d + 1) 0 0 0 0 mM_tell K 44 [some (.inr (.inr 27)), some (.inl (nI np)), some (.inl (nI i)), some (.inl (nI c)), some (.inl (nI R)), some (.inl (nI (wI pa co i c k).2)), some (.inl (wI pa co i c k).1), some (.inl (nI (r + 1))), none, some (.inl (nI p))] [] H2 := by
        intro m
        induction m with
        | zero =>
          intro p H2 hp s2 f1 f2 f3 f4 o2 l2
          have e : p = np := by omega
          subst e
          have eq : ((wI pa co i c k).1).toNatClampNeg = q := by rw [q2, nI_clamp (by omega)]
          have w1 : (wI pa co i c (k + 1)).1 = pa q := by show pa _ = _; rw [eq]
          have w2 : (wI pa co i c (k + 1)).2 = co q := by show co _ = _; rw [eq]
          refine r_iload (zdk oM_tell 26 rfl) rfl ?_
          refine r_iload_n (zdk oM_tell 27 rfl) rfl rfl ?_
          refine r_icmp_ge (tgt := 75) (zdk oM_tell 28 rfl) (by decide) (fun _ => ?_) (fun q9 => absurd ((Int32.le_refl (nI p))) q9)
          rw [q2]
          refine r_aload_n (zdk oM_tell 43 rfl) rfl rfl ?_
          refine r_getr (kf := 24) (zdk oM_tell 44 rfl) rfl rfl (by decide) lF_M_50 rfl ?_
          refine r_iload (zdk oM_tell 45 rfl) rfl ?_
          refine r_iald (zdk oM_tell 46 rfl) rfl (vp_in_nI (n := q) (by omega) (by decide)) ?_
          refine r_istore (zdk oM_tell 47 rfl) (Nat.le_of_ble_eq_true rfl) rfl ?_
          refine r_aload_n (zdk oM_tell 48 rfl) rfl rfl ?_
          refine r_getr (kf := 23) (zdk oM_tell 49 rfl) rfl rfl (by decide) lF_M_47 rfl ?_
          refine r_iload (zdk oM_tell 50 rfl) rfl ?_
          refine r_iald (zdk oM_tell 51 rfl) rfl (vp_in_nI (n := q) (by omega) (by decide)) ?_
          refine r_istore (zdk oM_tell 52 rfl) (Nat.le_of_ble_eq_true rfl) rfl ?_
          rw [nI_clamp (n := q) (by omega), o2 40 q (by omega) (by decide) (by decide), q3, o2 41 q (by omega) (by decide) (by decide), q4, ← w1, ← w2]
          refine r_iinc (zdk oM_tell 53 rfl) rfl (zdec r) rfl ?_
          refine r_goto (tgt := 26) (zdk oM_tell 54 rfl) (by decide) ?_
          refine r_mask [true, true, true, true, true, true, true, true, false, false] rfl rfl ?_
          refine ih (k + 1) H2 (by omega) f1 f2 ?_ o2 l2
          intro r' p' h1 h2 hp'
          by_cases e : r' = r + 1
          · subst e
            rw [f4 p' hp', show R - (r + 1) = k by omega]
          · exact f3 r' p' (by omega) h2 hp'
        | succ m ih2 =>
          intro p H2 hp s2 f1 f2 f3 f4 o2 l2
          have hx := xnp_lt (np := np) (r := r + 1) (p := p) n3 (by omega) (by omega)
          refine r_iload (zdk oM_tell 26 rfl) rfl ?_
          refine r_iload_n (zdk oM_tell 27 rfl) rfl rfl ?_
          refine r_icmp_ge (tgt := 75) (zdk oM_tell 28 rfl) (by decide) (fun q9 => absurd q9 ((nI_ge (a := p) (b := np) (by omega) (by omega)))) (fun _ => ?_)
          refine r_aload_n (zdk oM_tell 29 rfl) rfl rfl ?_
          refine r_getr (kf := 28) (zdk oM_tell 30 rfl) rfl rfl (by decide) lF_M_60 rfl ?_
          refine r_iload_n (zdk oM_tell 31 rfl) rfl rfl ?_
          refine r_iload (zdk oM_tell 32 rfl) rfl ?_
          refine r_imul (zdk oM_tell 33 rfl) ?_
          refine r_tp (pk_mul np (r + 1)) ?_
          refine r_iload (zdk oM_tell 34 rfl) rfl ?_
          refine r_iadd (zdk oM_tell 35 rfl) ?_
          refine r_tp (nI_add (np * (r + 1)) p) ?_
          refine r_aload_n (zdk oM_tell 36 rfl) rfl rfl ?_
          refine r_getr (kf := 12) (zdk oM_tell 37 rfl) rfl rfl (by decide) lF_M_25 rfl ?_
          refine r_iload (zdk oM_tell 38 rfl) rfl ?_
          refine r_iald (zdk oM_tell 39 rfl) rfl (vp_in_nI (n := p) (by omega) (by decide)) ?_
          rw [nI_clamp (n := p) (by omega), s2 p (by omega)]
          refine r_iast (zdk oM_tell 40 rfl) rfl (vp_in_nI (n := np * (r + 1) + p) (by omega) (by decide)) ?_
          first | refine r_iinc (zdk oM_tell 41 rfl) rfl (zinc _) rfl ?_ | refine r_iinc (zdk oM_tell 41 rfl) rfl rfl rfl ?_
          refine r_goto (tgt := 44) (zdk oM_tell 42 rfl) (by decide) ?_
          rw [nI_clamp (n := np * (r + 1) + p) (by omega)]
          refine ih2 (p + 1) _ (by omega) ?_ ?_ ?_ ?_ ?_ ?_ l2
          · intro j hj
            rw [zp1, if_neg (by omega)]; exact s2 j hj
          · rw [zp1, if_neg (by omega), f1]
          · rw [zp1, if_neg (by omega), f2]
          · intro r' p' h1 h2 hp'
            rw [zp1, if_neg (fun z => by have := xnp n1 n3 hp' (show p < np by omega) z.2; omega)]
            exact f3 r' p' h1 h2 hp'
          · intro p' hp'
            rw [zp1]
            by_cases e : p' = p
            · rw [if_pos ⟨rfl, by rw [e]⟩, e]
            · rw [if_neg (by omega)]; exact f4 p' (by omega)
          · intro a j c1 c2 c3
            rw [zp1, if_neg (fun z => c3 z.1)]; exact o2 a j c1 c2 c3
      refine r_mask [true, true, true, true, true, true, true, true, false, true] rfl rfl ?_
      refine inner np 0 _ (by omega) ?_ ?_ ?_ ?_ (fun p' hp' => by omega) ?_ hl
      · intro j hj
        rw [zset1, if_pos ⟨rfl, hj⟩]
      · rw [zset1, if_neg (by omega), e1]
      · rw [zset1, if_neg (by omega), e2]
      · intro r' p' h1 h2 hp'
        rw [zset1, if_neg (by omega)]; exact e3 r' p' h1 h2 hp'
      · intro a j c1 c2 c3
        rw [zset1, if_neg (fun z => c2 z.1)]; exact ho a j c1 c2 c3
  refine zmet (by decide +kernel) (Nat.le_of_ble_eq_true rfl) ?_
  refine r_aload_n (zdk oM_tell 0 rfl) rfl rfl ?_
  refine r_iload (zdk oM_tell 1 rfl) rfl ?_
  refine r_puti (kf := 26) (zdk oM_tell 2 rfl) rfl rfl (by decide) lF_M_56 rfl rfl (by decide +kernel) (Or.inl rfl) ?_
  refine r_aload_n (zdk oM_tell 3 rfl) rfl rfl ?_
  refine r_iload_n (zdk oM_tell 4 rfl) rfl rfl ?_
  refine r_iload_n (zdk oM_tell 5 rfl) rfl rfl ?_
  refine r_iload (zdk oM_tell 6 rfl) rfl ?_
  refine r_imul (zdk oM_tell 7 rfl) ?_
  refine r_tp (pk_mul np R) ?_
  refine r_iadd (zdk oM_tell 8 rfl) ?_
  refine r_tp (show nI np + nI (np * R) = nI (np * (R + 1)) by rw [nI_add]; congr 1; rw [Nat.mul_succ]; omega) ?_
  refine r_puti (kf := 27) (zdk oM_tell 9 rfl) rfl rfl (by decide) lF_M_188 rfl rfl (by decide +kernel) (Or.inl rfl) ?_
  refine r_iload_n (zdk oM_tell 10 rfl) rfl rfl ?_
  refine r_istore (zdk oM_tell 11 rfl) (Nat.le_of_ble_eq_true rfl) rfl ?_
  refine r_iload_n (zdk oM_tell 12 rfl) rfl rfl ?_
  refine r_istore (zdk oM_tell 13 rfl) (Nat.le_of_ble_eq_true rfl) rfl ?_
  refine r_iload (zdk oM_tell 14 rfl) rfl ?_
  refine r_istore (zdk oM_tell 15 rfl) (Nat.le_of_ble_eq_true rfl) rfl ?_
  refine outer R 0 _ (by omega) ?_ ?_ (fun r' p h1 h2 => by omega) ?_ rfl
  · simp [zp1]
  · simp [zp1]
  · intro a j c1 c2 c3
    simp only [zp1]
    rw [if_neg (by omega), if_neg (by omega)]
