/-! a round of the reference -/
def zMGo (h : zH) (n ph vars np r : Nat) (h' : zH) : Prop := (∀ p, p < np → h'.1 36 p = pMsg (h.1 28) n vars ph np r (h.1 34) p) ∧
  (∀ p v, p < np → v < vars → h'.1 34 (5 * p + v) = pNxt (h.1 28) n vars ph np r (h.1 34) (pMsg (h.1 28) n vars ph np r (h.1 34)) (h.1 33 p) p v) ∧
  (∀ a j, ¬ (a = 27 ∧ (j = 16 ∨ j = 17 ∨ j = 18)) → a ≠ 34 → a ≠ 35 → ¬ (a = 36 ∧ j < np) → a ≠ 37 → h'.1 a j = h.1 a j) ∧ h'.2 = h.2
theorem zMck_qH {h : zH} {n ph vars : Nat} (hc : zMck h n ph vars) : qH (h.1 28) n vars ph := fun e he => by
  obtain ⟨-, -, p1, p4, v2, v5, hex⟩ := hc
  have hd : e / (vars + 1) < ph := Nat.div_lt_of_lt_mul (by rw [Nat.mul_comm]; exact he)
  have hm : e % (vars + 1) < vars + 1 := Nat.mod_lt _ (by omega)
  obtain ⟨p, q, dd, a, -⟩ := hex (e / (vars + 1)) (e % (vars + 1)) hd (by omega)
  rw [show e / (vars + 1) * (vars + 1) + e % (vars + 1) = e by rw [Nat.mul_comm]; exact Nat.div_add_mod e (vars + 1)] at a
  exact ⟨p, q, dd, a⟩
theorem zMck_congr {h H : zH} {n ph vars : Nat} (ho : ∀ a j, (a = 27 ∧ (j = 7 ∨ j = 8)) ∨ a = 28 ∨ a = 29 ∨ a = 30 ∨ a = 31 → H.1 a j = h.1 a j) (hc : zMck h n ph vars) : zMck H n ph vars := by
  obtain ⟨k7, k8, p1, p4, v2, v5, hex⟩ := hc
  refine ⟨by rw [ho 27 7 (by omega), k7], by rw [ho 27 8 (by omega), k8], p1, p4, v2, v5, fun f pt hf hpt => ?_⟩
  obtain ⟨p, q, dd, a, b, c, e⟩ := hex f pt hf hpt
  rw [show H.1 28 = h.1 28 from funext (fun j => ho 28 j (by omega)), ho 29 _ (by omega), ho 30 _ (by omega), ho 31 _ (by omega)]
  exact ⟨p, q, dd, a, b, c, e⟩
theorem spM_go (d : Nat) (h : zH) (n ph vars np r : Nat) (hck : zMck h n ph vars) (hn : n ≤ 400) (np1 : 1 ≤ np) (np7 : np ≤ 7) (hr : r ≤ 1000) (hval : ∀ p v, p < np → v < vars → fGood (h.1 34 (5 * p + v))) (hs : ∀ p, p < np → ∃ k, k < 2 ^ np ∧ h.1 33 p = nI k) :
    zSP (d + 4) 0 0 mM_go [.inr (.inr 27), .inl (nI np), .inl (nI r)] h (fun r0 h' => r0 = .inl none ∧ zMGo h n ph vars np r h') := by
  obtain ⟨k7, k8, p1, p4, v2, v5, hex⟩ := id hck
  have hqH := zMck_qH hck
  have hrm : r % ph < ph := Nat.mod_lt _ (by omega)
  have hrp : r / ph ≤ r := Nat.div_le_self r ph
  suffices main : ∀ K : zR → zH → Prop, (∀ h', zMGo h n ph vars np r h' → K (.inl none) h') → zSP (d + 4) 0 0 mM_go [.inr (.inr 27), .inl (nI np), .inl (nI r)] h K from main _ (fun h' q => ⟨rfl, q⟩)
  intro K hK
  have hgm : ∀ p, p < np → fGood (pMsg (h.1 28) n vars ph np r (h.1 34) p) := fun p hp => pMsg_good hqH p1 v2 v5 hp np7 (fun v hv => hval p v hp hv)
  -- the last loop: what was worked out becomes the state
  have last : ∀ (k i : Nat) (H : zH), i + k = 5 * np → (∀ p, p < np → H.1 36 p = pMsg (h.1 28) n vars ph np r (h.1 34) p) → (∀ p v, p < np → v < vars → H.1 35 (5 * p + v) = pNxt (h.1 28) n vars ph np r (h.1 34) (pMsg (h.1 28) n vars ph np r (h.1 34)) (h.1 33 p) p v) → (∀ j, j < i → H.1 34 j = H.1 35 j) → (∀ a j, ¬ (a = 27 ∧ (j = 16 ∨ j = 17 ∨ j = 18)) → a ≠ 34 → a ≠ 35 → ¬ (a = 36 ∧ j < np) → a ≠ 37 → H.1 a j = h.1 a j) → H.2 = h.2 →
      zMC false (d + 4) 0 0 0 0 mM_go K 163 [some (.inr (.inr 27)), some (.inl (nI np)), some (.inl (nI r)), some (.inl (nI (r % ph))), some (.inl (nI i)), none, none] [] H := by
    intro k
    induction k with
    | zero =>
      intro i H hi hm hx hst ho hl
      refine r_iload (zdk oM_go 92 rfl) rfl ?_
      refine r_iconst (v := 5) (zdk oM_go 93 rfl) (by decide) ?_
      refine r_iload_n (zdk oM_go 94 rfl) rfl rfl ?_
      refine r_imul (zdk oM_go 95 rfl) ?_
      refine r_tp (pk_mul 5 np) ?_
      refine r_icmp_ge (tgt := 191) (zdk oM_go 96 rfl) (by decide) (fun _ => ?_) (fun q9 => absurd ((show nI (5 * np) ≤ nI i by rw [show i = 5 * np by omega]; exact Int32.le_refl _)) q9)
      refine r_vret (zdk oM_go 107 rfl) rfl ?_
      exact hK _ ⟨hm, fun p v hp hv => by rw [hst _ (by omega)]; exact hx p v hp hv, ho, hl⟩
    | succ k ih =>
      intro i H hi hm hx hst ho hl
      have ei : (nI i).toNatClampNeg = i := nI_clamp (by omega)
      refine r_iload (zdk oM_go 92 rfl) rfl ?_
      refine r_iconst (v := 5) (zdk oM_go 93 rfl) (by decide) ?_
      refine r_iload_n (zdk oM_go 94 rfl) rfl rfl ?_
      refine r_imul (zdk oM_go 95 rfl) ?_
      refine r_tp (pk_mul 5 np) ?_
      refine r_icmp_ge (tgt := 191) (zdk oM_go 96 rfl) (by decide) (fun q9 => absurd q9 ((nI_ge (a := i) (b := 5 * np) (by omega) (by omega)))) (fun _ => ?_)
      refine r_aload_n (zdk oM_go 97 rfl) rfl rfl ?_
      refine r_getr (kf := 13) (zdk oM_go 98 rfl) rfl rfl (by decide) lF_M_28 rfl ?_
      refine r_iload (zdk oM_go 99 rfl) rfl ?_
      refine r_aload_n (zdk oM_go 100 rfl) rfl rfl ?_
      refine r_getr (kf := 14) (zdk oM_go 101 rfl) rfl rfl (by decide) lF_M_31 rfl ?_
      refine r_iload (zdk oM_go 102 rfl) rfl ?_
      refine r_iald (zdk oM_go 103 rfl) rfl (vp_in_nI (n := i) (by omega) (by decide)) ?_
      refine r_iast (zdk oM_go 104 rfl) rfl (vp_in_nI (n := i) (by omega) (by decide)) ?_
      first | refine r_iinc (zdk oM_go 105 rfl) rfl (zinc _) rfl ?_ | refine r_iinc (zdk oM_go 105 rfl) rfl rfl rfl ?_
      refine r_goto (tgt := 163) (zdk oM_go 106 rfl) (by decide) ?_
      rw [ei]
      refine ih (i + 1) _ (by omega) ?_ ?_ ?_ ?_ hl
      · intro p hp
        rw [zp1, if_neg (by omega)]; exact hm p hp
      · intro p v hp hv
        rw [zp1, if_neg (by omega)]; exact hx p v hp hv
      · intro j hj
        rw [zp1, zp1, if_neg (show ¬ (35 = 34 ∧ j = i) by omega)]
        by_cases q : j = i
        · rw [if_pos ⟨rfl, q⟩, q]
        · rw [if_neg (fun z => q z.2)]; exact hst j (by omega)
      · intro a j c1 c2 c3 c4 c5
        rw [zp1, if_neg (fun z => c2 z.1)]; exact ho a j c1 c2 c3 c4 c5
  -- the middle loops: each process hears its set
  have mid : ∀ (k p : Nat) (H : zH), p + k = np → (∀ i, i < np → H.1 36 i = pMsg (h.1 28) n vars ph np r (h.1 34) i) → H.1 27 16 = nI np → H.1 27 17 = nI (r / ph) → (∀ i v, i < p → v < vars → H.1 35 (5 * i + v) = pNxt (h.1 28) n vars ph np r (h.1 34) (pMsg (h.1 28) n vars ph np r (h.1 34)) (h.1 33 i) i v) → (∀ a j, ¬ (a = 27 ∧ (j = 16 ∨ j = 17 ∨ j = 18)) → a ≠ 35 → ¬ (a = 36 ∧ j < np) → a ≠ 37 → H.1 a j = h.1 a j) → H.2 = h.2 →
      zMC false (d + 4) 0 0 0 0 mM_go K 62 [some (.inr (.inr 27)), some (.inl (nI np)), some (.inl (nI r)), some (.inl (nI (r % ph))), some (.inl (nI p)), none, none] [] H := by
    intro k
    induction k with
    | zero =>
      intro p H hp hm h16 h17 hx ho hl
      refine r_iload (zdk oM_go 36 rfl) rfl ?_
      refine r_iload_n (zdk oM_go 37 rfl) rfl rfl ?_
      refine r_icmp_ge (tgt := 160) (zdk oM_go 38 rfl) (by decide) (fun _ => ?_) (fun q9 => absurd ((show nI np ≤ nI p by rw [show p = np by omega]; exact Int32.le_refl _)) q9)
      refine r_iconst (v := 0) (zdk oM_go 90 rfl) (by decide) ?_
      refine r_istore (zdk oM_go 91 rfl) (Nat.le_of_ble_eq_true rfl) rfl ?_
      exact last (5 * np) 0 H (by omega) hm (fun i v hi hv => hx i v (by omega) hv) (fun j hj => by omega) (fun a j c1 c2 c3 c4 c5 => ho a j c1 c3 c4 c5) hl
    | succ k ih =>
      intro p H hp hm h16 h17 hx ho hl
      have ep : (nI p).toNatClampNeg = p := nI_clamp (by omega)
      obtain ⟨ks, hks, eks⟩ := hs p (by omega)
      have e33 : H.1 33 p = nI ks := by rw [ho 33 p (by omega) (by decide) (by omega) (by decide), eks]
      refine r_iload (zdk oM_go 36 rfl) rfl ?_
      refine r_iload_n (zdk oM_go 37 rfl) rfl rfl ?_
      refine r_icmp_ge (tgt := 160) (zdk oM_go 38 rfl) (by decide) (fun q9 => absurd q9 ((nI_ge (a := p) (b := np) (by omega) (by omega)))) (fun _ => ?_)
      refine r_aload_n (zdk oM_go 39 rfl) rfl rfl ?_
      refine r_aload_n (zdk oM_go 40 rfl) rfl rfl ?_
      refine r_getr (kf := 12) (zdk oM_go 41 rfl) rfl rfl (by decide) lF_M_25 rfl ?_
      refine r_iload (zdk oM_go 42 rfl) rfl ?_
      refine r_iald (zdk oM_go 43 rfl) rfl (vp_in_nI (n := p) (by omega) (by decide)) ?_
      rw [ep, e33]
      refine r_puti (kf := 18) (zdk oM_go 44 rfl) rfl rfl (by decide) lF_M_136 rfl rfl (by decide +kernel) (Or.inl rfl) ?_
      refine r_iconst (v := 0) (zdk oM_go 45 rfl) (by decide) ?_
      refine r_istore (zdk oM_go 46 rfl) (Nat.le_of_ble_eq_true rfl) rfl ?_
      have inner : ∀ (k2 v : Nat) (H3 : zH), v + k2 = vars → (∀ a j, ¬ (a = 27 ∧ j = 18) → a ≠ 35 → a ≠ 37 → H3.1 a j = H.1 a j) → H3.1 27 18 = nI ks → H3.2 = h.2 → (∀ i v, i < p → v < vars → H3.1 35 (5 * i + v) = pNxt (h.1 28) n vars ph np r (h.1 34) (pMsg (h.1 28) n vars ph np r (h.1 34)) (h.1 33 i) i v) → (∀ v', v' < v → H3.1 35 (5 * p + v') = pNxt (h.1 28) n vars ph np r (h.1 34) (pMsg (h.1 28) n vars ph np r (h.1 34)) (h.1 33 p) p v') →
          zMC false (d + 4) 0 0 0 0 mM_go K 82 [some (.inr (.inr 27)), some (.inl (nI np)), some (.inl (nI r)), some (.inl (nI (r % ph))), some (.inl (nI p)), some (.inl (nI v)), none] [] H3 := by
        intro k2
        induction k2 with
        | zero =>
          intro v H3 hv0 o3 h18 l3 x3 y3
          have ev : v = vars := by omega
          subst ev
          have q8 : H3.1 27 8 = nI v := by rw [o3 27 8 (by decide) (by decide) (by decide), ho 27 8 (by decide) (by decide) (by omega) (by decide), k8]
          refine r_iload (zdk oM_go 47 rfl) rfl ?_
          refine r_aload_n (zdk oM_go 48 rfl) rfl rfl ?_
          refine r_geti (kf := 8) (zdk oM_go 49 rfl) rfl rfl (by decide) lF_M_113 rfl ?_
          rw [q8]
          refine r_icmp_ge (tgt := 154) (zdk oM_go 50 rfl) (by decide) (fun _ => ?_) (fun q9 => absurd ((Int32.le_refl (nI v))) q9)
          first | refine r_iinc (zdk oM_go 88 rfl) rfl (zinc _) rfl ?_ | refine r_iinc (zdk oM_go 88 rfl) rfl rfl rfl ?_
          refine r_goto (tgt := 62) (zdk oM_go 89 rfl) (by decide) ?_
          refine r_mask [true, true, true, true, true, false, false] rfl rfl ?_
          refine ih (p + 1) H3 (by omega) (fun i hi => by rw [o3 36 i (by omega) (by decide) (by decide)]; exact hm i hi) (by rw [o3 27 16 (by decide) (by decide) (by decide), h16]) (by rw [o3 27 17 (by decide) (by decide) (by decide), h17]) ?_ ?_ l3
          · intro i v' hi hv'
            by_cases q : i = p
            · rw [q]; exact y3 v' hv'
            · exact x3 i v' (by omega) hv'
          · intro a j c1 c2 c3 c4
            rw [o3 a j (by omega) c2 c4]; exact ho a j c1 c2 c3 c4
        | succ k2 ih2 =>
          intro v H3 hv0 o3 h18 l3 x3 y3
          have q8 : H3.1 27 8 = nI vars := by rw [o3 27 8 (by decide) (by decide) (by decide), ho 27 8 (by decide) (by decide) (by omega) (by decide), k8]
          have d0 : ∀ a j, (a = 27 ∧ (j = 7 ∨ j = 8)) ∨ a = 28 ∨ a = 29 ∨ a = 30 ∨ a = 31 → H3.1 a j = h.1 a j := fun a j ha => by rw [o3 a j (by omega) (by omega) (by omega)]; exact ho a j (by omega) (by omega) (by omega) (by omega)
          have d28 : H3.1 28 = h.1 28 := funext (fun j => d0 28 j (by omega))
          have d34 : H3.1 34 = h.1 34 := funext (fun j => by rw [o3 34 j (by omega) (by decide) (by decide)]; exact ho 34 j (by omega) (by decide) (by omega) (by decide))
          have d36 : ∀ i, i < np → H3.1 36 i = pMsg (h.1 28) n vars ph np r (h.1 34) i := fun i hi => by rw [o3 36 i (by omega) (by decide) (by decide)]; exact hm i hi
          have gA : mAt H3 np (r / ph) (nI ks) := ⟨by rw [o3 27 16 (by decide) (by decide) (by decide), h16], by rw [o3 27 17 (by decide) (by decide) (by decide), h17], h18, np1, np7, by omega⟩
          have hgm3 : ∀ i, i < np → fGood (H3.1 36 i) := fun i hi => by rw [d36 i hi]; exact hgm i hi
          have hv3 : ∀ v', v' < vars → fGood (H3.1 34 (5 * p + v')) := fun v' hv' => by rw [d34]; exact hval p v' (by omega) hv'
          refine r_iload (zdk oM_go 47 rfl) rfl ?_
          refine r_aload_n (zdk oM_go 48 rfl) rfl rfl ?_
          refine r_geti (kf := 8) (zdk oM_go 49 rfl) rfl rfl (by decide) lF_M_113 rfl ?_
          rw [q8]
          refine r_icmp_ge (tgt := 154) (zdk oM_go 50 rfl) (by decide) (fun q9 => absurd q9 ((nI_ge (a := v) (b := vars) (by omega) (by omega)))) (fun _ => ?_)
          refine r_aload_n (zdk oM_go 51 rfl) rfl rfl ?_
          refine r_iload (zdk oM_go 52 rfl) rfl ?_
          refine r_bipush (v := 6) (zdk oM_go 53 rfl) (by decide) ?_
          refine r_iload_n (zdk oM_go 54 rfl) rfl rfl ?_
          refine r_imul (zdk oM_go 55 rfl) ?_
          refine r_tp (pk_mul 6 (r % ph)) ?_
          refine r_iconst (v := 1) (zdk oM_go 56 rfl) (by decide) ?_
          refine r_iadd (zdk oM_go 57 rfl) ?_
          refine r_tp (nI_1 (6 * (r % ph))) ?_
          refine r_iload (zdk oM_go 58 rfl) rfl ?_
          refine r_iadd (zdk oM_go 59 rfl) ?_
          refine r_tp (show nI (6 * (r % ph) + 1) + nI v = nI (6 * (r % ph) + (v + 1)) by rw [nI_add]; congr 1; omega) ?_
          refine r_callV2 (M' := mM_value) (zdk oM_go 60 rfl) lM_M_161 vM_value rfl rfl (Nat.le_of_ble_eq_true rfl) rfl (spM_value d H3 n ph vars (r % ph) (v + 1) p np (r / ph) (nI ks) (zMck_congr d0 hck) hn gA hrm (by omega) (by omega) (Or.inr ⟨hgm3, ks, hks, rfl⟩) (cP_ok (by omega) np7 v5 hv3 hgm3)) ?_
          intro r0 h5 hw
          obtain ⟨er, o5, l5⟩ := hw
          cases er
          obtain ⟨hlt, hmod, -⟩ := qH_lt (r := r) p1 (show v < vars by omega)
          obtain ⟨p0, q0, d0', hqp⟩ := hqH _ hlt
          have ex : vE (H3.1 28) n vars (r % ph * (vars + 1) + (v + 1)) (c0P p np (r / ph) (H3.1 34) (H3.1 36) (nI ks)) (c1P np (H3.1 36) (nI ks)) = vE (h.1 28) n vars (r % ph * (vars + 1) + (v + 1)) (c0P p np (r / ph) (h.1 34) (pMsg (h.1 28) n vars ph np r (h.1 34)) (nI ks)) (c1P np (pMsg (h.1 28) n vars ph np r (h.1 34)) (nI ks)) := by
            rw [d28, d34]
            exact vE_congr hqp (fun w hc h0 => c0P_congr v5 (fun _ _ => rfl) d36 hc h0) (fun w a _ _ => c1P_congr d36)
          rw [ex]
          have enx : (if h.1 28 (2 + v) < vE (h.1 28) n vars (r % ph * (vars + 1) + (v + 1)) (c0P p np (r / ph) (h.1 34) (pMsg (h.1 28) n vars ph np r (h.1 34)) (nI ks)) (c1P np (pMsg (h.1 28) n vars ph np r (h.1 34)) (nI ks)) then h.1 28 (2 + v) else vE (h.1 28) n vars (r % ph * (vars + 1) + (v + 1)) (c0P p np (r / ph) (h.1 34) (pMsg (h.1 28) n vars ph np r (h.1 34)) (nI ks)) (c1P np (pMsg (h.1 28) n vars ph np r (h.1 34)) (nI ks))) = pNxt (h.1 28) n vars ph np r (h.1 34) (pMsg (h.1 28) n vars ph np r (h.1 34)) (h.1 33 p) p v := by rw [eks]; rfl
          generalize vE (h.1 28) n vars (r % ph * (vars + 1) + (v + 1)) (c0P p np (r / ph) (h.1 34) (pMsg (h.1 28) n vars ph np r (h.1 34)) (nI ks)) (c1P np (pMsg (h.1 28) n vars ph np r (h.1 34)) (nI ks)) = x at enx ⊢
          have w5 : h5.1 28 (2 + v) = h.1 28 (2 + v) := by rw [o5 28 _ (by decide), d28]
          have fin : zMC false (d + 4) 0 0 0 0 mM_go K 147 [some (.inr (.inr 27)), some (.inl (nI np)), some (.inl (nI r)), some (.inl (nI (r % ph))), some (.inl (nI p)), some (.inl (nI v)), some (.inl x)] [.inl (if h.1 28 (2 + v) < x then h.1 28 (2 + v) else x), .inl (nI (5 * p + v)), .inr (.inr 35)] h5 := by
            rw [enx]
            refine r_iast (zdk oM_go 85 rfl) rfl (vp_in_nI (n := 5 * p + v) (by omega) (by decide)) ?_
            first | refine r_iinc (zdk oM_go 86 rfl) rfl (zinc _) rfl ?_ | refine r_iinc (zdk oM_go 86 rfl) rfl rfl rfl ?_
            refine r_goto (tgt := 82) (zdk oM_go 87 rfl) (by decide) ?_
            rw [nI_clamp (n := 5 * p + v) (by omega)]
            refine r_mask [true, true, true, true, true, true, false] rfl rfl ?_
            refine ih2 (v + 1) _ (by omega) ?_ ?_ ?_ ?_ ?_
            · intro a j c1 c2 c3
              rw [zp1, if_neg (fun z => c2 z.1), o5 a j c3]; exact o3 a j c1 c2 c3
            · rw [zp1, if_neg (by omega), o5 27 18 (by decide), h18]
            · rw [zp2, l5, l3]
            · intro i v' hi hv'
              rw [zp1, if_neg (by omega), o5 35 _ (by decide)]; exact x3 i v' hi hv'
            · intro v' hv'
              rw [zp1]
              by_cases q : v' = v
              · rw [if_pos ⟨rfl, by omega⟩, q]
              · rw [if_neg (by omega), o5 35 _ (by decide)]; exact y3 v' (by omega)
          refine r_istore (zdk oM_go 61 rfl) (Nat.le_of_ble_eq_true rfl) rfl ?_
          refine r_aload_n (zdk oM_go 62 rfl) rfl rfl ?_
          refine r_getr (kf := 14) (zdk oM_go 63 rfl) rfl rfl (by decide) lF_M_31 rfl ?_
          refine r_iconst (v := 5) (zdk oM_go 64 rfl) (by decide) ?_
          refine r_iload (zdk oM_go 65 rfl) rfl ?_
          refine r_imul (zdk oM_go 66 rfl) ?_
          refine r_tp (pk_mul 5 p) ?_
          refine r_iload (zdk oM_go 67 rfl) rfl ?_
          refine r_iadd (zdk oM_go 68 rfl) ?_
          refine r_tp (nI_add (5 * p) v) ?_
          refine r_iload (zdk oM_go 69 rfl) rfl ?_
          refine r_aload_n (zdk oM_go 70 rfl) rfl rfl ?_
          refine r_getr (kf := 2) (zdk oM_go 71 rfl) rfl rfl (by decide) lF_M_7 rfl ?_
          refine r_iconst (v := 2) (zdk oM_go 72 rfl) (by decide) ?_
          refine r_iload (zdk oM_go 73 rfl) rfl ?_
          refine r_iadd (zdk oM_go 74 rfl) ?_
          refine r_tp (nI_add 2 v) ?_
          refine r_iald (zdk oM_go 75 rfl) rfl (vp_in_nI (n := 2 + v) (by omega) (by decide)) ?_
          rw [nI_clamp (n := 2 + v) (by omega), w5]
          refine r_icmp_le (tgt := 145) (zdk oM_go 76 rfl) (by decide) (fun hle => ?_) (fun hle => ?_)
          · rw [if_neg (Int32.not_lt.mpr hle)] at fin
            refine r_iload (zdk oM_go 84 rfl) rfl ?_
            exact fin
          · rw [if_pos (Int32.not_le.mp hle)] at fin
            refine r_aload_n (zdk oM_go 77 rfl) rfl rfl ?_
            refine r_getr (kf := 2) (zdk oM_go 78 rfl) rfl rfl (by decide) lF_M_7 rfl ?_
            refine r_iconst (v := 2) (zdk oM_go 79 rfl) (by decide) ?_
            refine r_iload (zdk oM_go 80 rfl) rfl ?_
            refine r_iadd (zdk oM_go 81 rfl) ?_
            refine r_tp (nI_add 2 v) ?_
            refine r_iald (zdk oM_go 82 rfl) rfl (vp_in_nI (n := 2 + v) (by omega) (by decide)) ?_
            refine r_goto (tgt := 147) (zdk oM_go 83 rfl) (by decide) ?_
            rw [nI_clamp (n := 2 + v) (by omega), w5]
            exact fin
      refine inner vars 0 _ (by omega) ?_ ?_ hl ?_ (fun v' hv' => by omega)
      · intro a j c1 c2 c3
        rw [zp1, if_neg c1]
      · rw [zp1, if_pos ⟨rfl, rfl⟩]
      · intro i v hi hv
        rw [zp1, if_neg (by omega)]; exact hx i v hi hv
  -- the first loop: the messages
  have first : ∀ (k p : Nat) (H : zH), p + k = np → (∀ i, i < p → H.1 36 i = pMsg (h.1 28) n vars ph np r (h.1 34) i) → mAt H np (r / ph) 0 → (∀ a j, ¬ (a = 27 ∧ (j = 16 ∨ j = 17 ∨ j = 18)) → ¬ (a = 36 ∧ j < np) → a ≠ 37 → H.1 a j = h.1 a j) → H.2 = h.2 →
      zMC false (d + 4) 0 0 0 0 mM_go K 30 [some (.inr (.inr 27)), some (.inl (nI np)), some (.inl (nI r)), some (.inl (nI (r % ph))), some (.inl (nI p)), none, none] [] H := by
    intro k
    induction k with
    | zero =>
      intro p H hp hm gA ho hl
      refine r_iload (zdk oM_go 19 rfl) rfl ?_
      refine r_iload_n (zdk oM_go 20 rfl) rfl rfl ?_
      refine r_icmp_ge (tgt := 59) (zdk oM_go 21 rfl) (by decide) (fun _ => ?_) (fun q9 => absurd ((show nI np ≤ nI p by rw [show p = np by omega]; exact Int32.le_refl _)) q9)
      refine r_iconst (v := 0) (zdk oM_go 34 rfl) (by decide) ?_
      refine r_istore (zdk oM_go 35 rfl) (Nat.le_of_ble_eq_true rfl) rfl ?_
      exact mid np 0 H (by omega) (fun i hi => hm i (by omega)) gA.1 gA.2.1 (fun i v hi => by omega) (fun a j c1 c2 c3 c4 => ho a j c1 c3 c4) hl
    | succ k ih =>
      intro p H hp hm gA ho hl
      have ep : (nI p).toNatClampNeg = p := nI_clamp (by omega)
      have d0 : ∀ a j, (a = 27 ∧ (j = 7 ∨ j = 8)) ∨ a = 28 ∨ a = 29 ∨ a = 30 ∨ a = 31 → H.1 a j = h.1 a j := fun a j ha => ho a j (by omega) (by omega) (by omega)
      have d28 : H.1 28 = h.1 28 := funext (fun j => d0 28 j (by omega))
      have d34 : H.1 34 = h.1 34 := funext (fun j => ho 34 j (by omega) (by omega) (by decide))
      have low : ∀ w, fCan w vars (decide (¬ 0 = 0)) = true → fParts w = 0 → c0P p np (r / ph) (H.1 34) (H.1 36) 0 w = c0P p np (r / ph) (h.1 34) (fun _ => 0) 0 w := by
        intro w hc h0
        rw [d34]
        rcases fCan_0 hc h0 v5 with ⟨k, k1, rfl⟩ | ⟨k, k1, k2, rfl, k3⟩ | ⟨k, k1, rfl⟩
        · rw [cP_num k1, cP_num k1]
        · have hk : k = 31 ∨ k = 32 ∨ k = 33 ∨ k = 34 := by
            rcases k3 with z | z
            · exact absurd z (by decide)
            · omega
          rcases hk with rfl | rfl | rfl | rfl
          · show nI p = nI p
            rfl
          · show nI np = nI np
            rfl
          · show nI (min (r / ph) 15) = nI (min (r / ph) 15)
            rfl
          · show nI (r / ph % np) = nI (r / ph % np)
            rfl
        · rw [cP_var (by omega), cP_var (by omega)]
      have low1 : ∀ w a, fCan w vars (decide (¬ 0 = 0)) = true → fParts w = 1 → c1P np (H.1 36) 0 w a = c1P np (fun _ => 0) 0 w a := by
        intro w a hc h1
        rw [fCan_1f hc h1 v5]
        rfl
      have hok : fOk vars (decide (¬ 0 = 0)) (c0P p np (r / ph) (H.1 34) (H.1 36) 0) (c1P np (H.1 36) 0) f2 := fOk_congr low low1 (cP_ok (hears := decide (¬ 0 = 0)) (show p < np by omega) np7 v5 (fun v hv => hval p v (by omega) hv) (fun _ _ => nI_good (k := 0) (by decide)))
      refine r_iload (zdk oM_go 19 rfl) rfl ?_
      refine r_iload_n (zdk oM_go 20 rfl) rfl rfl ?_
      refine r_icmp_ge (tgt := 59) (zdk oM_go 21 rfl) (by decide) (fun q9 => absurd q9 ((nI_ge (a := p) (b := np) (by omega) (by omega)))) (fun _ => ?_)
      refine r_aload_n (zdk oM_go 22 rfl) rfl rfl ?_
      refine r_getr (kf := 15) (zdk oM_go 23 rfl) rfl rfl (by decide) lF_M_34 rfl ?_
      refine r_iload (zdk oM_go 24 rfl) rfl ?_
      refine r_aload_n (zdk oM_go 25 rfl) rfl rfl ?_
      refine r_iload (zdk oM_go 26 rfl) rfl ?_
      refine r_bipush (v := 6) (zdk oM_go 27 rfl) (by decide) ?_
      refine r_iload_n (zdk oM_go 28 rfl) rfl rfl ?_
      refine r_imul (zdk oM_go 29 rfl) ?_
      refine r_tp (show (6 : Int32) * nI (r % ph) = nI (6 * (r % ph) + 0) from pk_mul 6 (r % ph)) ?_
      refine r_callV2 (M' := mM_value) (zdk oM_go 30 rfl) lM_M_161 vM_value rfl rfl (Nat.le_of_ble_eq_true rfl) rfl (spM_value d H n ph vars (r % ph) 0 p np (r / ph) 0 (zMck_congr d0 hck) hn gA hrm (by omega) (by omega) (Or.inl rfl) hok) ?_
      intro r0 h5 hw
      obtain ⟨er, o5, l5⟩ := hw
      cases er
      have hex5 : vE (H.1 28) n vars (r % ph * (vars + 1) + 0) (c0P p np (r / ph) (H.1 34) (H.1 36) 0) (c1P np (H.1 36) 0) = pMsg (h.1 28) n vars ph np r (h.1 34) p := by
        rw [d28, Nat.add_zero]
        obtain ⟨-, -, hlt⟩ := qH_lt (r := r) (v := 0) p1 (show 0 < vars by omega)
        obtain ⟨p0, q0, d0', hqp⟩ := hqH _ hlt
        have hm0 : r % ph * (vars + 1) % (vars + 1) = 0 := Nat.mul_mod_left _ _
        exact vE_congr hqp (fun w hc h0 => low w (by rw [hm0] at hc; exact hc) h0) (fun w a hc h0 => low1 w a (by rw [hm0] at hc; exact hc) h0)
      rw [hex5]
      refine r_iast (zdk oM_go 31 rfl) rfl (vp_in_nI (n := p) (by omega) (by decide)) ?_
      first | refine r_iinc (zdk oM_go 32 rfl) rfl (zinc _) rfl ?_ | refine r_iinc (zdk oM_go 32 rfl) rfl rfl rfl ?_
      refine r_goto (tgt := 30) (zdk oM_go 33 rfl) (by decide) ?_
      rw [ep]
      refine ih (p + 1) _ (by omega) ?_ ?_ ?_ ?_
      · intro i hi
        rw [zp1]
        by_cases q : i = p
        · rw [if_pos ⟨rfl, q⟩, q]
        · rw [if_neg (fun z => q z.2), o5 36 i (by decide)]; exact hm i (by omega)
      · obtain ⟨a1, a2, a3, a4, a5, a6⟩ := gA
        exact ⟨by rw [zp1, if_neg (by omega), o5 27 16 (by decide), a1], by rw [zp1, if_neg (by omega), o5 27 17 (by decide), a2], by rw [zp1, if_neg (by omega), o5 27 18 (by decide), a3], a4, a5, a6⟩
      · intro a j c1 c2 c3
        rw [zp1, if_neg (fun z => c2 ⟨z.1, by omega⟩), o5 a j c3]; exact ho a j c1 c2 c3
      · rw [zp2, l5, hl]
  refine zmet (by decide +kernel) (Nat.le_of_ble_eq_true rfl) ?_
  refine r_iload_n (zdk oM_go 0 rfl) rfl rfl ?_
  refine r_aload_n (zdk oM_go 1 rfl) rfl rfl ?_
  refine r_geti (kf := 7) (zdk oM_go 2 rfl) rfl rfl (by decide) lF_M_120 rfl ?_
  rw [k7]
  refine r_irem (zdk oM_go 3 rfl) (nI_ne0 (n := ph) (by omega) (by omega)) ?_
  refine r_tp (pk_rem (a := r) (d := ph) (by omega) (by omega) (by omega)) ?_
  refine r_istore_n (zdk oM_go 4 rfl) rfl (Nat.le_of_ble_eq_true rfl) rfl ?_
  refine r_aload_n (zdk oM_go 5 rfl) rfl rfl ?_
  refine r_iload_n (zdk oM_go 6 rfl) rfl rfl ?_
  refine r_puti (kf := 16) (zdk oM_go 7 rfl) rfl rfl (by decide) lF_M_133 rfl rfl (by decide +kernel) (Or.inl rfl) ?_
  refine r_aload_n (zdk oM_go 8 rfl) rfl rfl ?_
  refine r_iload_n (zdk oM_go 9 rfl) rfl rfl ?_
  refine r_aload_n (zdk oM_go 10 rfl) rfl rfl ?_
  refine r_geti (kf := 7) (zdk oM_go 11 rfl) rfl rfl (by decide) lF_M_120 rfl ?_
  have e7 : (zput h 27 16 (nI np)).1 27 7 = nI ph := by simp [zp1, k7]
  rw [e7]
  refine r_idiv (zdk oM_go 12 rfl) (nI_ne0 (n := ph) (by omega) (by omega)) ?_
  refine r_tp (pk_div (a := r) (d := ph) (by omega) (by omega) (by omega)) ?_
  refine r_puti (kf := 17) (zdk oM_go 13 rfl) rfl rfl (by decide) lF_M_143 rfl rfl (by decide +kernel) (Or.inl rfl) ?_
  refine r_aload_n (zdk oM_go 14 rfl) rfl rfl ?_
  refine r_iconst (v := 0) (zdk oM_go 15 rfl) (by decide) ?_
  refine r_puti (kf := 18) (zdk oM_go 16 rfl) rfl rfl (by decide) lF_M_136 rfl rfl (by decide +kernel) (Or.inl rfl) ?_
  refine r_iconst (v := 0) (zdk oM_go 17 rfl) (by decide) ?_
  refine r_istore (zdk oM_go 18 rfl) (Nat.le_of_ble_eq_true rfl) rfl ?_
  refine first np 0 _ (by omega) (fun i hi => by omega) ⟨by simp [zp1], by simp [zp1], by simp [zp1], np1, np7, by omega⟩ ?_ rfl
  intro a j c1 c2 c3
  simp only [zp1]
  rw [if_neg (by omega), if_neg (by omega), if_neg (by omega)]
