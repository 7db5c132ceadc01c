/-! the class's search: goOnFrom -/
theorem x1n {np : Nat} (hn : np ≤ 3) : (1 : Int32) <<< (nI np &&& 31) = nI (2 ^ np) := by
  have key : ∀ np : Fin 4, (1 : Int32) <<< (nI np.val &&& 31) = nI (2 ^ np.val) := by decide +kernel
  exact key ⟨np, by omega⟩
theorem x5v (p v : Nat) : nI p * 5 + nI v = nI (5 * p + v) := by
  rw [show (5 : Int32) = nI 5 from rfl, pk_mul, nI_add, Nat.mul_comm]
theorem spS_goOnFrom (d : Nat) (h : zH) (P : xP) (hP : xPok P) (s : xZ) (lo i r f : Nat) (hs : zCS P lo s h) (he : s.e = none) (hy : zRdy P h) (hi : i < lo) (hf : f ≤ i) (hr : r < 5) (hj : xJv f lo r s) :
    zSP (d + 4) 0 0 mS_goOnFrom [.inr (.inr 14), .inl (nI i), .inl (nI r)] h (fun r0 h' => r0 = .inl none ∧ zCS P lo (xIn P r lo i s (2 ^ (P.np * P.np))) h' ∧ zEndC P (xIn P r lo i s (2 ^ (P.np * P.np))) h h' ∧ zRdy P h' ∧ zFq h h') := by
  suffices main : ∀ Q : zR → zH → Prop, (∀ h', zCS P lo (xIn P r lo i s (2 ^ (P.np * P.np))) h' → zEndC P (xIn P r lo i s (2 ^ (P.np * P.np))) h h' → zRdy P h' → zFq h h' → Q (.inl none) h') → zSP (d + 4) 0 0 mS_goOnFrom [.inr (.inr 14), .inl (nI i), .inl (nI r)] h Q from main _ (fun h' a b c e => ⟨rfl, a, b, c, e⟩)
  intro Q hQ
  have n1 := hP.n1
  have n3 := hP.n3
  have v2 := hP.v2
  have v5 := hP.v5
  have p1 := hP.p1
  obtain ⟨e2n, b2n⟩ := x2nn n3
  have p8 : 2 ^ P.np ≤ 8 := Nat.le_trans (Nat.pow_le_pow_right (by decide) n3) (by decide)
  have hin : i < s.n := by have := hj.2.1; omega
  have n200 := hs.1.2.1
  obtain ⟨c21, -, -, cok, -⟩ := hs.1.2.2 i hin
  have hat : xBt s.n s.pa s.co r i := hj.2.2.2.1 i hf hi
  generalize eK : s.K i = K0 at *
  obtain ⟨y1, y2, y3, y4, y5, y6, y7⟩ := id hy
  obtain ⟨k5, k6, -⟩ := id y3
  have hrp : r / P.ph ≤ r := Nat.div_le_self r P.ph
  -- the last loop: the hearings
  have last : ∀ (m c : Nat) (H : zH), c + m = 2 ^ (P.np * P.np) → zCS P lo (xIn P r lo i s c) H → zEndC P (xIn P r lo i s c) h H → zRdy P H → zFq h H → (∀ p k, p < P.np → k < 2 ^ P.np → H.2 26 (8 * p + k) = nJ (nN P r K0 p k)) →
      zMC false (d + 4) 0 0 0 0 mS_goOnFrom Q 148 [some (.inr (.inr 14)), some (.inl (nI i)), some (.inl (nI r)), some (.inr (.inl (nJ K0))), none, none, some (.inr (.inl (nJ (K0 / 16 ^ 15 * 16 ^ 15)))), none, some (.inl (nI (hN P.np P.kd c)))] [] H := by
    intro m
    induction m with
    | zero =>
      intro c H hc hsH heH hyH hfH hnH
      have e : c = 2 ^ (P.np * P.np) := by omega
      rw [e] at hsH heH ⊢
      refine r_iload (zdk oS_goOnFrom 75 rfl) rfl ?_
      refine r_aload_n (zdk oS_goOnFrom 76 rfl) rfl rfl ?_
      refine r_geti (kf := 12) (zdk oS_goOnFrom 77 rfl) rfl rfl (by decide) lF_S_44 rfl ?_
      rw [hyH.2.2.2.2.2.1]
      refine r_icmp_ge (tgt := 199) (zdk oS_goOnFrom 78 rfl) (by decide) (fun _ => ?_) (fun q9 => absurd ((Int32.le_refl _)) q9)
      refine r_vret (zdk oS_goOnFrom 102 rfl) rfl ?_
      exact hQ H hsH heH hyH hfH
    | succ m ih =>
      intro c H hc hsH heH hyH hfH hnH
      have hle := hN_le P.np P.kd (2 ^ (P.np * P.np))
      have hlc := hN_le P.np P.kd c
      have hiv := xIn_jv (P := P) (c := c) hj hf hi
      by_cases eE : (xIn P r lo i s c).e = none
      · cases hL : xLd P.np c P.kd with
        | false =>
          have e1 : xIn P r lo i s (c + 1) = xIn P r lo i s c := xGo_n eE hL
          have e2 : hN P.np P.kd (c + 1) = hN P.np P.kd c := by
            show hN P.np P.kd c + (if xLd P.np c P.kd = true then 1 else 0) = _
            rw [if_neg (by rw [hL]; decide), Nat.add_zero]
          have i0 := ih (c + 1) H (by omega)
          rw [e1, e2] at i0
          exact i0 hsH heH hyH hfH hnH
        | true =>
          have hlt := hN_lt (np := P.np) (kd := P.kd) (show c < 2 ^ (P.np * P.np) by omega) hL
          have e2 : hN P.np P.kd (c + 1) = hN P.np P.kd c + 1 := by
            show hN P.np P.kd c + (if xLd P.np c P.kd = true then 1 else 0) = _
            rw [if_pos hL]
          have e25 := hyH.2.2.2.2.2.2 c (by omega) hL
          have ecl : (nI (hN P.np P.kd c)).toNatClampNeg = hN P.np P.kd c := nI_clamp (by omega)
          have hKi : (xIn P r lo i s c).K i = K0 := by
            have key : ∀ c, (xIn P r lo i s c).K i = K0 ∧ s.n ≤ (xIn P r lo i s c).n := by
              intro c
              induction c with
              | zero => exact ⟨eK, Nat.le_refl _⟩
              | succ c ihc =>
                show (xGo P r lo i (xIn P r lo i s c) c).K i = K0 ∧ s.n ≤ (xGo P r lo i (xIn P r lo i s c) c).n
                unfold xGo
                split
                · exact ihc
                · split
                  · exact ihc
                  · split
                    · exact ihc
                    · unfold xTry
                      by_cases hh : xHas (xIn P r lo i s c) lo (xNx P r ((xIn P r lo i s c).K i) c)
                      · rw [if_pos hh]; exact ihc
                      · rw [if_neg hh]
                        split
                        · exact ihc
                        · refine ⟨?_, Nat.le_succ_of_le ihc.2⟩
                          show (if i = (xIn P r lo i s c).n then _ else (xIn P r lo i s c).K i) = K0
                          rw [if_neg (by have := ihc.2; omega)]; exact ihc.1
            exact (key c).1
          have hatc : xBt (xIn P r lo i s c).n (xIn P r lo i s c).pa (xIn P r lo i s c).co r i := hiv.2.2.2.1 i hf hi
          have e14 : H.1 14 14 = 0 := by rw [hsH.2.2.1.1, eE]; rfl
          refine r_iload (zdk oS_goOnFrom 75 rfl) rfl ?_
          refine r_aload_n (zdk oS_goOnFrom 76 rfl) rfl rfl ?_
          refine r_geti (kf := 12) (zdk oS_goOnFrom 77 rfl) rfl rfl (by decide) lF_S_44 rfl ?_
          rw [hyH.2.2.2.2.2.1]
          refine r_icmp_ge (tgt := 199) (zdk oS_goOnFrom 78 rfl) (by decide) (fun q9 => absurd q9 ((nI_ge hlt (by omega)))) (fun _ => ?_)
          refine r_aload_n (zdk oS_goOnFrom 79 rfl) rfl rfl ?_
          refine r_geti (kf := 14) (zdk oS_goOnFrom 80 rfl) rfl rfl (by decide) lF_S_50 rfl ?_
          rw [e14]
          refine r_if_ne (tgt := 199) (zdk oS_goOnFrom 81 rfl) (by decide) (fun q9 => absurd ((rfl)) q9) (fun _ => ?_)
          refine r_aload_n (zdk oS_goOnFrom 82 rfl) rfl rfl ?_
          refine r_lload (zdk oS_goOnFrom 83 rfl) rfl ?_
          refine r_aload_n (zdk oS_goOnFrom 84 rfl) rfl rfl ?_
          refine r_aload_n (zdk oS_goOnFrom 85 rfl) rfl rfl ?_
          refine r_getr (kf := 10) (zdk oS_goOnFrom 86 rfl) rfl rfl (by decide) lF_S_38 rfl ?_
          refine r_iload (zdk oS_goOnFrom 87 rfl) rfl ?_
          refine r_iald (zdk oS_goOnFrom 88 rfl) rfl (vp_in_nI (n := hN P.np P.kd c) (by omega) (by decide)) ?_
          rw [ecl, e25]
          refine r_callV1j (M' := mS_together) (zdk oS_goOnFrom 89 rfl) lM_S_145 vS_together rfl rfl (Nat.le_of_ble_eq_true rfl) rfl (spS_together (d + 2) H (nN P r K0) P.np c hyH.1 n3 (by omega) hnH) ?_
          refine r_lor (zdk oS_goOnFrom 90 rfl) ?_
          rw [nJ_or, tg_all hP cok.1]
          refine r_iload_n (zdk oS_goOnFrom 91 rfl) rfl rfl ?_
          refine r_aload_n (zdk oS_goOnFrom 92 rfl) rfl rfl ?_
          refine r_getr (kf := 10) (zdk oS_goOnFrom 93 rfl) rfl rfl (by decide) lF_S_38 rfl ?_
          refine r_iload (zdk oS_goOnFrom 94 rfl) rfl ?_
          refine r_iald (zdk oS_goOnFrom 95 rfl) rfl (vp_in_nI (n := hN P.np P.kd c) (by omega) (by decide)) ?_
          rw [ecl, e25]
          refine r_iload_n (zdk oS_goOnFrom 96 rfl) rfl rfl ?_
          refine r_iconst (v := 1) (zdk oS_goOnFrom 97 rfl) (by decide) ?_
          refine r_iadd (zdk oS_goOnFrom 98 rfl) ?_
          refine r_tp (nI_1 r) ?_
          have spc := spS_comeTo d H P hP (xIn P r lo i s c) lo i c r hsH eE hyH.1 hatc.lt hr hatc (by omega) hL
          rw [hKi] at spc
          refine r_callV4 (M' := mS_comeTo) (zdk oS_goOnFrom 99 rfl) lM_S_148 vS_comeTo rfl rfl (Nat.le_of_ble_eq_true rfl) rfl spc ?_
          intro r1 h1 q1
          obtain ⟨e1, t1, t2, t3, t4⟩ := q1
          cases e1
          have hf1 : zFq H h1 := ⟨fun a j k1 k2 k3 k4 k5 k6 k7 k8 k9 k10 => t3 a j k1 k2 k8 k9 k10, fun a j k1 k2 => t4 a j k1⟩
          have i0 := ih (c + 1) h1 (by omega) t1 (zEndC.trans eE heH t2) (hyH.congr (fun a j ha => t3 a j (by omega) (by omega) (by omega) (by omega) (by omega)) (fun i hi => by rw [t3 18 i (by omega) (by decide) (by decide) (by decide) (by decide)]; exact hyH.2.2.2.2.1 i hi)) (hfH.trans hf1) (fun p k hp hk => by rw [t4 26 _ (by decide)]; exact hnH p k hp hk)
          rw [e2] at i0
          first | refine r_iinc (zdk oS_goOnFrom 100 rfl) rfl (zinc _) rfl ?_ | refine r_iinc (zdk oS_goOnFrom 100 rfl) rfl rfl rfl ?_
          refine r_goto (tgt := 148) (zdk oS_goOnFrom 101 rfl) (by decide) ?_
          exact i0
      · have eF := xIn_full (N := 2 ^ (P.np * P.np)) eE (by omega)
        rw [eF] at hQ
        have e14 : ¬ H.1 14 14 = 0 := by
          rw [hsH.2.2.1.1, decide_eq_true eE]
          exact fBo_t
        refine r_iload (zdk oS_goOnFrom 75 rfl) rfl ?_
        refine r_aload_n (zdk oS_goOnFrom 76 rfl) rfl rfl ?_
        refine r_geti (kf := 12) (zdk oS_goOnFrom 77 rfl) rfl rfl (by decide) lF_S_44 rfl ?_
        refine r_icmp_ge (tgt := 199) (zdk oS_goOnFrom 78 rfl) (by decide) (fun hb => ?_) (fun hb => ?_)
        · refine r_vret (zdk oS_goOnFrom 102 rfl) rfl ?_
          exact hQ H hsH heH hyH hfH
        · refine r_aload_n (zdk oS_goOnFrom 79 rfl) rfl rfl ?_
          refine r_geti (kf := 14) (zdk oS_goOnFrom 80 rfl) rfl rfl (by decide) lF_S_50 rfl ?_
          refine r_if_ne (tgt := 199) (zdk oS_goOnFrom 81 rfl) (by decide) (fun _ => ?_) (fun q9 => absurd q9 ((e14)))
          refine r_vret (zdk oS_goOnFrom 102 rfl) rfl ?_
          exact hQ H hsH heH hyH hfH
  -- what each process comes to, a set
  have midp : ∀ (m p : Nat) (H : zH), p + m = P.np → zCS P lo s H → zEndC P s h H → zRdy P H → zFq h H → zGr H P.n P.ph P.vars P.np r → (∀ p v, p < P.np → v < P.vars → H.1 19 (5 * p + v) = dg K0 (5 * p + v)) → (∀ p, p < P.np → H.1 18 p = pMsg P.W P.n P.vars P.ph P.np r (dg K0) p) → (∀ p' k, p' < p → k < 2 ^ P.np → H.2 26 (8 * p' + k) = nJ (nN P r K0 p' k)) →
      zMC false (d + 4) 0 0 0 0 mS_goOnFrom Q 84 [some (.inr (.inr 14)), some (.inl (nI i)), some (.inl (nI r)), some (.inr (.inl (nJ K0))), none, some (.inl (nI (2 ^ P.np))), some (.inl (nI p)), none, none] [] H := by
    intro m
    induction m with
    | zero =>
      intro p H hp hsH heH hyH hfH hgH h19 h18 hnH
      have e : p = P.np := by omega
      subst e
      refine r_iload (zdk oS_goOnFrom 42 rfl) rfl ?_
      refine r_aload_n (zdk oS_goOnFrom 43 rfl) rfl rfl ?_
      refine r_geti (kf := 13) (zdk oS_goOnFrom 44 rfl) rfl rfl (by decide) lF_S_47 rfl ?_
      rw [hyH.1]
      refine r_icmp_ge (tgt := 136) (zdk oS_goOnFrom 45 rfl) (by decide) (fun _ => ?_) (fun q9 => absurd ((Int32.le_refl (nI P.np))) q9)
      refine r_lload_n (zdk oS_goOnFrom 67 rfl) rfl rfl ?_
      refine r_bipush (v := 60) (zdk oS_goOnFrom 68 rfl) (by decide) ?_
      refine r_lushr (zdk oS_goOnFrom 69 rfl) ?_
      rw [show (60 : Int32) = nI 60 from rfl, nJ_ushr K0 60 cok.1 (by decide)]
      refine r_bipush (v := 60) (zdk oS_goOnFrom 70 rfl) (by decide) ?_
      refine r_lshl (zdk oS_goOnFrom 71 rfl) ?_
      rw [show (60 : Int32) = nI 60 from rfl, nJ_shl _ 60 (by decide)]
      refine r_lstore (zdk oS_goOnFrom 72 rfl) (Nat.le_of_ble_eq_true rfl) rfl ?_
      refine r_iconst (v := 0) (zdk oS_goOnFrom 73 rfl) (by decide) ?_
      refine r_istore (zdk oS_goOnFrom 74 rfl) (Nat.le_of_ble_eq_true rfl) rfl ?_
      refine r_mask [true, true, true, true, true, false, true, true, true] rfl rfl ?_
      exact last (2 ^ (P.np * P.np)) 0 H (by omega) hsH heH hyH hfH (fun p k hp hk => hnH p k hp hk)
    | succ m ih =>
      intro p H hp hsH heH hyH hfH hgH h19 h18 hnH
      have inner : ∀ (m2 k : Nat) (H2 : zH), k + m2 = 2 ^ P.np → (∀ a j, ¬ (a = 16 ∧ j = 7) → a ≠ 17 → a ≠ 20 → H2.1 a j = H.1 a j) → (∀ a j, a ≠ 26 → H2.2 a j = H.2 a j) → (∀ p' k', p' < p → k' < 2 ^ P.np → H2.2 26 (8 * p' + k') = nJ (nN P r K0 p' k')) → (∀ k', k' < k → H2.2 26 (8 * p + k') = nJ (nN P r K0 p k')) →
          zMC false (d + 4) 0 0 0 0 mS_goOnFrom Q 96 [some (.inr (.inr 14)), some (.inl (nI i)), some (.inl (nI r)), some (.inr (.inl (nJ K0))), none, some (.inl (nI (2 ^ P.np))), some (.inl (nI p)), some (.inl (nI k)), none] [] H2 := by
        intro m2
        induction m2 with
        | zero =>
          intro k H2 hk o2 l2 x2 z2
          have e : k = 2 ^ P.np := by omega
          rw [e] at z2 ⊢
          refine r_iload (zdk oS_goOnFrom 48 rfl) rfl ?_
          refine r_iload (zdk oS_goOnFrom 49 rfl) rfl ?_
          refine r_icmp_ge (tgt := 130) (zdk oS_goOnFrom 50 rfl) (by decide) (fun _ => ?_) (fun q9 => absurd ((Int32.le_refl _)) q9)
          first | refine r_iinc (zdk oS_goOnFrom 65 rfl) rfl (zinc _) rfl ?_ | refine r_iinc (zdk oS_goOnFrom 65 rfl) rfl rfl rfl ?_
          refine r_goto (tgt := 84) (zdk oS_goOnFrom 66 rfl) (by decide) ?_
          refine r_mask [true, true, true, true, true, true, true, false, false] rfl rfl ?_
          refine ih (p + 1) H2 (by omega) (hsH.congr (fun a j ha => o2 a j (by omega) (by omega) (by omega)) (fun j => l2 21 j (by decide))) ?_ (hyH.congr (fun a j ha => o2 a j (by omega) (by omega) (by omega)) (fun i hi => by rw [o2 18 i (by omega) (by decide) (by decide)]; exact hyH.2.2.2.2.1 i hi)) (hfH.trans ⟨fun a j k1 k2 k3 k4 k5 k6 k7 k8 k9 k10 => o2 a j (by omega) k4 k7, fun a j k1 k2 => l2 a j k2⟩) (hgH.congr (fun a j ha => o2 a j (by omega) (by omega) (by omega))) (fun p v hp hv => by rw [o2 19 _ (by omega) (by decide) (by decide)]; exact h19 p v hp hv) (fun p hp => by rw [o2 18 _ (by omega) (by decide) (by decide)]; exact h18 p hp) ?_
          · unfold zEndC at heH ⊢
            rw [he] at heH ⊢
            exact ⟨by rw [o2 14 1 (by omega) (by decide) (by decide)]; exact heH.1, by rw [o2 14 2 (by omega) (by decide) (by decide)]; exact heH.2.1, fun j => by rw [o2 15 j (by omega) (by decide) (by decide)]; exact heH.2.2 j⟩
          · intro p' k' hp' hk'
            by_cases e : p' = p
            · subst e; exact z2 k' hk'
            · exact x2 p' k' (by omega) hk'
        | succ m2 ih2 =>
          intro k H2 hk o2 l2 x2 z2
          have hg2 : zGr H2 P.n P.ph P.vars P.np r := hgH.congr (fun a j ha => o2 a j (by omega) (by omega) (by omega))
          have hv2 : ∀ v, v < P.vars → (fun v => (nV P r K0 p k v).toNatClampNeg) v < 16 ∧ pNxt (H2.1 2) P.n P.vars P.ph P.np r (H2.1 19) (H2.1 18) (nI k) p v = nI ((fun v => (nV P r K0 p k v).toNatClampNeg) v) := by
            intro v hv
            obtain ⟨w1, w2⟩ := nV16 hP (r := r) (K := K0) (k := k) (p := p) (v := v) (by omega) hv
            refine ⟨w1, ?_⟩
            rw [show H2.1 2 = P.W from funext (fun j => by rw [o2 2 j (by omega) (by decide) (by decide)]; exact hyH.2.2.2.1 j)]
            show _ = nI (nV P r K0 p k v).toNatClampNeg
            rw [← w2]
            exact pNxt_congr hP.hq hP.p1 v5 hv (fun v hv => by rw [o2 19 _ (by omega) (by decide) (by decide)]; exact h19 p v (by omega) hv) (fun i hi => by rw [o2 18 _ (by omega) (by decide) (by decide)]; exact h18 i hi)
          refine r_iload (zdk oS_goOnFrom 48 rfl) rfl ?_
          refine r_iload (zdk oS_goOnFrom 49 rfl) rfl ?_
          refine r_icmp_ge (tgt := 130) (zdk oS_goOnFrom 50 rfl) (by decide) (fun q9 => absurd q9 ((nI_ge (a := k) (b := 2 ^ P.np) (by omega) (by omega)))) (fun _ => ?_)
          refine r_aload_n (zdk oS_goOnFrom 51 rfl) rfl rfl ?_
          refine r_getr (kf := 11) (zdk oS_goOnFrom 52 rfl) rfl rfl (by decide) lF_S_41 rfl ?_
          refine r_iload (zdk oS_goOnFrom 53 rfl) rfl ?_
          refine r_bipush (v := 8) (zdk oS_goOnFrom 54 rfl) (by decide) ?_
          refine r_imul (zdk oS_goOnFrom 55 rfl) ?_
          refine r_tp (show nI p * 8 = nI (8 * p) by rw [show (8 : Int32) = nI 8 from rfl, pk_mul, Nat.mul_comm]) ?_
          refine r_iload (zdk oS_goOnFrom 56 rfl) rfl ?_
          refine r_iadd (zdk oS_goOnFrom 57 rfl) ?_
          refine r_tp (nI_add (8 * p) k) ?_
          refine r_aload_n (zdk oS_goOnFrom 58 rfl) rfl rfl ?_
          refine r_iload (zdk oS_goOnFrom 59 rfl) rfl ?_
          refine r_iload (zdk oS_goOnFrom 60 rfl) rfl ?_
          refine r_callV2 (M' := mS_nextOf) (zdk oS_goOnFrom 61 rfl) lM_S_141 vS_nextOf rfl rfl (Nat.le_of_ble_eq_true rfl) rfl (spS_nextOf d H2 P.n P.ph P.vars P.np r p k hg2 hP.n4 n3 (by omega) (by omega) (by omega) (fun v => (nV P r K0 p k v).toNatClampNeg) hv2) ?_
          intro r1 h1 q1
          obtain ⟨e1, t1, t2⟩ := q1
          cases e1
          refine r_last (zdk oS_goOnFrom 62 rfl) rfl (vp_in_nI (n := 8 * p + k) (by omega) (by decide)) ?_
          first | refine r_iinc (zdk oS_goOnFrom 63 rfl) rfl (zinc _) rfl ?_ | refine r_iinc (zdk oS_goOnFrom 63 rfl) rfl rfl rfl ?_
          refine r_goto (tgt := 96) (zdk oS_goOnFrom 64 rfl) (by decide) ?_
          rw [nI_clamp (n := 8 * p + k) (by omega)]
          refine ih2 (k + 1) _ (by omega) ?_ ?_ ?_ ?_
          · intro a j k1 k2 k3
            rw [zq1, t1 a j k1 k2 k3, o2 a j k1 k2 k3]
          · intro a j k1
            rw [zq2, if_neg (fun z => k1 z.1), t2, l2 a j k1]
          · intro p' k' hp' hk'
            rw [zq2, if_neg (by omega), t2]; exact x2 p' k' hp' hk'
          · intro k' hk'
            rw [zq2]
            by_cases e : k' = k
            · rw [if_pos ⟨rfl, by rw [e]⟩, e]; rfl
            · rw [if_neg (by omega), t2]; exact z2 k' (by omega)
      refine r_iload (zdk oS_goOnFrom 42 rfl) rfl ?_
      refine r_aload_n (zdk oS_goOnFrom 43 rfl) rfl rfl ?_
      refine r_geti (kf := 13) (zdk oS_goOnFrom 44 rfl) rfl rfl (by decide) lF_S_47 rfl ?_
      rw [hyH.1]
      refine r_icmp_ge (tgt := 136) (zdk oS_goOnFrom 45 rfl) (by decide) (fun q9 => absurd q9 ((nI_ge (a := p) (b := P.np) (by omega) (by omega)))) (fun _ => ?_)
      refine r_iconst (v := 0) (zdk oS_goOnFrom 46 rfl) (by decide) ?_
      refine r_istore (zdk oS_goOnFrom 47 rfl) (Nat.le_of_ble_eq_true rfl) rfl ?_
      exact inner (2 ^ P.np) 0 H (by omega) (fun _ _ _ _ _ => rfl) (fun _ _ _ => rfl) hnH (fun k' hk' => absurd hk' (Nat.not_lt_zero k'))
  -- what the state holds is set
  have setp : ∀ (m p : Nat) (H : zH), p + m = P.np → (∀ p' v, p' < p → v < P.vars → H.1 19 (5 * p' + v) = dg K0 (5 * p' + v)) → (∀ a j, a ≠ 19 → H.1 a j = h.1 a j) → H.2 = h.2 →
      zMC false (d + 4) 0 0 0 0 mS_goOnFrom Q 10 [some (.inr (.inr 14)), some (.inl (nI i)), some (.inl (nI r)), some (.inr (.inl (nJ K0))), none, some (.inl (nI p)), none, none, none] [] H := by
    intro m
    induction m with
    | zero =>
      intro p H hp h19 ho hl
      have e : p = P.np := by omega
      subst e
      have e13 : H.1 14 13 = nI P.np := by rw [ho 14 13 (by decide), y1]
      have hval : ∀ p v, p < P.np → v < P.vars → fGood (H.1 19 (5 * p + v)) := fun p v hp hv => by rw [h19 p v hp hv]; exact dg_good _ _
      refine r_iload (zdk oS_goOnFrom 7 rfl) rfl ?_
      refine r_aload_n (zdk oS_goOnFrom 8 rfl) rfl rfl ?_
      refine r_geti (kf := 13) (zdk oS_goOnFrom 9 rfl) rfl rfl (by decide) lF_S_47 rfl ?_
      rw [e13]
      refine r_icmp_ge (tgt := 65) (zdk oS_goOnFrom 10 rfl) (by decide) (fun _ => ?_) (fun q9 => absurd ((Int32.le_refl (nI P.np))) q9)
      refine r_aload_n (zdk oS_goOnFrom 31 rfl) rfl rfl ?_
      refine r_getr (kf := 5) (zdk oS_goOnFrom 32 rfl) rfl rfl (by decide) lF_S_66 rfl ?_
      refine r_iload_n (zdk oS_goOnFrom 33 rfl) rfl rfl ?_
      refine r_callV1 (M' := mG_speak) (zdk oS_goOnFrom 34 rfl) lM_S_138 vG_speak rfl rfl (Nat.le_of_ble_eq_true rfl) rfl (spG_speak_16 d H P.n P.ph P.vars P.np r (zChk_cg (fun a j ha => ho a j (by omega)) y3) hP.n4 (by rw [ho 16 2 (by decide), y2]) n1 (by omega) (by omega) hval (fun i hi => by rw [ho 18 i (by decide)]; exact y5 i hi)) ?_
      intro r1 h1 q1
      obtain ⟨e1, s5, s6, sm, sg, so, sl⟩ := q1
      cases e1
      have oA : ∀ a j, ¬ (a = 16 ∧ 5 ≤ j) → a ≠ 18 → a ≠ 19 → a ≠ 20 → h1.1 a j = h.1 a j := fun a j k1 k2 k3 k4 => by rw [so a j k1 k2 k4, ho a j k3]
      have o19 : ∀ j, h1.1 19 j = H.1 19 j := fun j => so 19 j (by omega) (by decide) (by decide)
      have lA : h1.2 = h.2 := by rw [sl, hl]
      have e131 : h1.1 14 13 = nI P.np := by rw [oA 14 13 (by omega) (by decide) (by decide) (by decide), y1]
      refine r_iconst (v := 1) (zdk oS_goOnFrom 35 rfl) (by decide) ?_
      refine r_aload_n (zdk oS_goOnFrom 36 rfl) rfl rfl ?_
      refine r_geti (kf := 13) (zdk oS_goOnFrom 37 rfl) rfl rfl (by decide) lF_S_47 rfl ?_
      rw [e131]
      refine r_ishl (zdk oS_goOnFrom 38 rfl) ?_
      rw [x1n n3]
      refine r_istore (zdk oS_goOnFrom 39 rfl) (Nat.le_of_ble_eq_true rfl) rfl ?_
      refine r_iconst (v := 0) (zdk oS_goOnFrom 40 rfl) (by decide) ?_
      refine r_istore (zdk oS_goOnFrom 41 rfl) (Nat.le_of_ble_eq_true rfl) rfl ?_
      refine midp P.np 0 h1 (by omega) (hs.congr (fun a j ha => oA a j (by omega) (by omega) (by omega) (by omega)) (fun j => by rw [lA])) ?_ (hy.congr (fun a j ha => oA a j (by omega) (by omega) (by omega) (by omega)) sg) ⟨fun a j k1 k2 k3 k4 k5 k6 k7 k8 k9 k10 => oA a j k3 k5 k6 k7, fun a j k1 k2 => by rw [lA]⟩ ⟨zChk_cg (fun a j ha => oA a j (by omega) (by omega) (by omega) (by omega)) y3, by rw [oA 16 2 (by omega) (by decide) (by decide) (by decide), y2], s5, s6, fun p v hp hv => by rw [o19]; exact hval p v hp hv, sg⟩ (fun p v hp hv => by rw [o19]; exact h19 p v hp hv) ?_ (fun p' k hp' => absurd hp' (Nat.not_lt_zero p'))
      · unfold zEndC
        rw [he]
        exact ⟨oA 14 1 (by omega) (by decide) (by decide) (by decide), oA 14 2 (by omega) (by decide) (by decide) (by decide), fun j => oA 15 j (by omega) (by decide) (by decide) (by decide)⟩
      · intro p hp
        have := sm p hp
        rw [this, show H.1 2 = P.W from funext (fun j => by rw [ho 2 j (by decide)]; exact y4 j)]
        exact pMsg_congr hP.hq hP.p1 v2 v5 (fun v hv => h19 p v hp hv)
    | succ m ih =>
      intro p H hp h19 ho hl
      have e13 : H.1 14 13 = nI P.np := by rw [ho 14 13 (by decide), y1]
      have inner : ∀ (m2 v : Nat) (H2 : zH), v + m2 = P.vars → (∀ p' v', p' < p → v' < P.vars → H2.1 19 (5 * p' + v') = dg K0 (5 * p' + v')) → (∀ v', v' < v → H2.1 19 (5 * p + v') = dg K0 (5 * p + v')) → (∀ a j, a ≠ 19 → H2.1 a j = h.1 a j) → H2.2 = h.2 →
          zMC false (d + 4) 0 0 0 0 mS_goOnFrom Q 22 [some (.inr (.inr 14)), some (.inl (nI i)), some (.inl (nI r)), some (.inr (.inl (nJ K0))), none, some (.inl (nI p)), some (.inl (nI v)), none, none] [] H2 := by
        intro m2
        induction m2 with
        | zero =>
          intro v H2 hv x2 z2 o2 l2
          have e : v = P.vars := by omega
          have e6 : H2.1 1 6 = nI P.vars := by rw [o2 1 6 (by decide), k6]
          refine r_iload (zdk oS_goOnFrom 13 rfl) rfl ?_
          refine r_aload_n (zdk oS_goOnFrom 14 rfl) rfl rfl ?_
          refine r_getr (kf := 4) (zdk oS_goOnFrom 15 rfl) rfl rfl (by decide) lF_S_57 rfl ?_
          refine r_geti (kf := 6) (zdk oS_goOnFrom 16 rfl) rfl rfl (by decide) lF_S_127 rfl ?_
          rw [e6]
          refine r_icmp_ge (tgt := 59) (zdk oS_goOnFrom 17 rfl) (by decide) (fun _ => ?_) (fun q9 => absurd ((show nI P.vars ≤ nI v by rw [e]; exact Int32.le_refl _)) q9)
          first | refine r_iinc (zdk oS_goOnFrom 29 rfl) rfl (zinc _) rfl ?_ | refine r_iinc (zdk oS_goOnFrom 29 rfl) rfl rfl rfl ?_
          refine r_goto (tgt := 10) (zdk oS_goOnFrom 30 rfl) (by decide) ?_
          refine r_mask [true, true, true, true, true, true, false, false, false] rfl rfl ?_
          refine ih (p + 1) H2 (by omega) ?_ o2 l2
          intro p' v' hp' hv'
          by_cases e : p' = p
          · subst e; exact z2 v' (by omega)
          · exact x2 p' v' (by omega) hv'
        | succ m2 ih2 =>
          intro v H2 hv x2 z2 o2 l2
          have e6 : H2.1 1 6 = nI P.vars := by rw [o2 1 6 (by decide), k6]
          refine r_iload (zdk oS_goOnFrom 13 rfl) rfl ?_
          refine r_aload_n (zdk oS_goOnFrom 14 rfl) rfl rfl ?_
          refine r_getr (kf := 4) (zdk oS_goOnFrom 15 rfl) rfl rfl (by decide) lF_S_57 rfl ?_
          refine r_geti (kf := 6) (zdk oS_goOnFrom 16 rfl) rfl rfl (by decide) lF_S_127 rfl ?_
          rw [e6]
          refine r_icmp_ge (tgt := 59) (zdk oS_goOnFrom 17 rfl) (by decide) (fun q9 => absurd q9 ((nI_ge (a := v) (b := P.vars) (by omega) (by omega)))) (fun _ => ?_)
          refine r_aload_n (zdk oS_goOnFrom 18 rfl) rfl rfl ?_
          refine r_getr (kf := 5) (zdk oS_goOnFrom 19 rfl) rfl rfl (by decide) lF_S_66 rfl ?_
          refine r_iload (zdk oS_goOnFrom 20 rfl) rfl ?_
          refine r_iload (zdk oS_goOnFrom 21 rfl) rfl ?_
          refine r_lload_n (zdk oS_goOnFrom 22 rfl) rfl rfl ?_
          refine r_iload (zdk oS_goOnFrom 23 rfl) rfl ?_
          refine r_iload (zdk oS_goOnFrom 24 rfl) rfl ?_
          refine r_callS3i (M' := mS_unpacked) (zdk oS_goOnFrom 25 rfl) lM_S_130 sS_unpacked (Nat.le_of_ble_eq_true rfl) rfl (spS_unpacked (d + 3) H2 K0 p v cok.1 (by omega) (by omega)) ?_
          refine r_callV3v (M' := mG_setValue) (zdk oS_goOnFrom 26 rfl) lM_S_134 vG_setValue rfl rfl (Nat.le_of_ble_eq_true rfl) rfl (spG_setValue_16 (d + 3) H2 (nI p) (nI v) (nI (xD K0 (5 * p + v))) (by rw [x5v]; exact vp_in_nI (by omega) (by decide))) ?_
          rw [x5v, nI_clamp (n := 5 * p + v) (by omega)]
          first | refine r_iinc (zdk oS_goOnFrom 27 rfl) rfl (zinc _) rfl ?_ | refine r_iinc (zdk oS_goOnFrom 27 rfl) rfl rfl rfl ?_
          refine r_goto (tgt := 22) (zdk oS_goOnFrom 28 rfl) (by decide) ?_
          refine ih2 (v + 1) _ (by omega) ?_ ?_ ?_ l2
          · intro p' v' hp' hv'
            rw [zp1, if_neg (by omega)]; exact x2 p' v' hp' hv'
          · intro v' hv'
            rw [zp1]
            by_cases e : v' = v
            · rw [if_pos ⟨rfl, by rw [e]⟩, e]; rfl
            · rw [if_neg (by omega)]; exact z2 v' (by omega)
          · intro a j ha
            rw [zp1, if_neg (fun z => ha z.1)]; exact o2 a j ha
      refine r_iload (zdk oS_goOnFrom 7 rfl) rfl ?_
      refine r_aload_n (zdk oS_goOnFrom 8 rfl) rfl rfl ?_
      refine r_geti (kf := 13) (zdk oS_goOnFrom 9 rfl) rfl rfl (by decide) lF_S_47 rfl ?_
      rw [e13]
      refine r_icmp_ge (tgt := 65) (zdk oS_goOnFrom 10 rfl) (by decide) (fun q9 => absurd q9 ((nI_ge (a := p) (b := P.np) (by omega) (by omega)))) (fun _ => ?_)
      refine r_iconst (v := 0) (zdk oS_goOnFrom 11 rfl) (by decide) ?_
      refine r_istore (zdk oS_goOnFrom 12 rfl) (Nat.le_of_ble_eq_true rfl) rfl ?_
      exact inner P.vars 0 H (by omega) h19 (fun v' hv' => absurd hv' (Nat.not_lt_zero v')) ho hl
  refine zmet (by decide +kernel) (Nat.le_of_ble_eq_true rfl) ?_
  refine r_aload_n (zdk oS_goOnFrom 0 rfl) rfl rfl ?_
  refine r_getr (kf := 6) (zdk oS_goOnFrom 1 rfl) rfl rfl (by decide) lF_S_25 rfl ?_
  refine r_iload_n (zdk oS_goOnFrom 2 rfl) rfl rfl ?_
  refine r_lald (zdk oS_goOnFrom 3 rfl) rfl (vp_in_nI (n := i) (by omega) (by decide)) ?_
  rw [nI_clamp (n := i) (by omega), c21]
  refine r_lstore_n (zdk oS_goOnFrom 4 rfl) rfl (Nat.le_of_ble_eq_true rfl) rfl ?_
  refine r_iconst (v := 0) (zdk oS_goOnFrom 5 rfl) (by decide) ?_
  refine r_istore (zdk oS_goOnFrom 6 rfl) (Nat.le_of_ble_eq_true rfl) rfl ?_
  exact setp P.np 0 h (by omega) (fun p' v hp' => absurd hp' (Nat.not_lt_zero p')) (fun _ _ _ => rfl) rfl
