/-! the class searches -/
theorem xFs_co (P : xP) (dd : Nat) : ∀ c, c ≤ 200 → ∀ j, j < (xFs P dd c).n → (xFs P dd c).co j < c
  | 0, _, j, hj => absurd hj (Nat.not_lt_zero j)
  | c + 1, hc, j, hj => by
    have ih := xFs_co P dd c (by omega)
    have hn := (xFs_n P dd c (by omega)).1
    unfold xFs at hj ⊢
    by_cases hF : xFt P.np dd c P.np = true
    · rw [if_pos hF] at hj ⊢
      unfold xTry at hj ⊢
      by_cases hh : xHas (xFs P dd c) 0 (xF P c)
      · rw [if_pos hh] at hj ⊢
        have := ih j hj; omega
      · rw [if_neg hh, if_neg (by omega)] at hj ⊢
        have hj' : j < (xFs P dd c).n + 1 := hj
        show (if j = (xFs P dd c).n then c else (xFs P dd c).co j) < c + 1
        by_cases e : j = (xFs P dd c).n
        · rw [if_pos e]; omega
        · rw [if_neg e]
          have := ih j (by omega); omega
    · rw [if_neg hF] at hj ⊢
      have := ih j hj; omega
theorem zTab_0 {s : xZ} {T : Nat → Int32} (h : ∀ q, q < 512 → T q = 0) : zTab s s.n T := ⟨fun q hq => Or.inl (h q hq), fun j h1 h2 => absurd h2 (by omega), by rw [cnt_zero h 512 (Nat.le_refl _)]; omega⟩
theorem xLv_jv {P : xP} {f lo r : Nat} {s : xZ} (h : xJv f lo r s) : ∀ k, f + k ≤ lo → xJv f lo r (xLv P r lo f s k)
  | 0, _ => h
  | k + 1, hk => xIn_jv (xLv_jv h k (by omega)) (Nat.le_add_right f k) (by omega) _
theorem spS_searchRuns (d : Nat) (h : zH) (P : xP) (hP : xPok P) (R dd : Nat) (hR : R ≤ 5) (d1 : 1 ≤ dd) (d3 : dd ≤ 3) (hy : zRdy P h) (h0 : h.1 14 0 = 0) (h14 : h.1 14 14 = 0) (h15 : h.1 14 15 = 0) :
    zSP (d + 5) 0 0 mS_searchRuns [.inr (.inr 14), .inl (nI R), .inl (nI dd)] h (fun r0 h' => r0 = .inl (some (.inl (xAns (xRs P (xFs P dd 64) R).1.e))) ∧ zCl P (xRs P (xFs P dd 64) R).1 h' ∧ zEndC P (xRs P (xFs P dd 64) R).1 h h' ∧ zRdy P h' ∧ zFq h h') := by
  have es0 := (xFs_n P dd 64 (by decide)).2
  have eco := xFs_co P dd 64 (by decide)
  generalize es : xFs P dd 64 = s0 at *
  suffices main : ∀ Q : zR → zH → Prop, (∀ h', zCl P (xRs P s0 R).1 h' → zEndC P (xRs P s0 R).1 h h' → zRdy P h' → zFq h h' → Q (.inl (some (.inl (xAns (xRs P s0 R).1.e)))) h') → zSP (d + 5) 0 0 mS_searchRuns [.inr (.inr 14), .inl (nI R), .inl (nI dd)] h Q from main _ (fun h' a b c e => ⟨rfl, a, b, c, e⟩)
  intro Q hQ
  have fin : ∀ (s : xZ) (H : zH) (L : List (Option zV)), L.length = 7 → L[0]? = some (some (.inr (.inr 14))) → (xRs P s0 R).1 = s → zCl P s H → zEn s H → zEndC P s h H → zRdy P H → zFq h H → zMC false (d + 5) 0 0 0 0 mS_searchRuns Q 85 L [] H := by
    intro s H L hL0 hL1 ee hc hn heH hyH hfH
    subst ee
    refine r_aload_n (zdk oS_searchRuns 42 rfl) rfl hL1 ?_
    refine r_geti (kf := 15) (zdk oS_searchRuns 43 rfl) rfl rfl (by decide) lF_S_54 rfl ?_
    rw [hn.2]
    refine r_iret (zdk oS_searchRuns 44 rfl) rfl ?_
    exact hQ H hc heH hyH hfH
  have rounds : ∀ (m r : Nat) (H : zH), r + m = R → zCl P (xRs P s0 r).1 H → zEn (xRs P s0 r).1 H → zEndC P (xRs P s0 r).1 h H → zRdy P H → zFq h H → (xRs P s0 r).2 ≤ (xRs P s0 r).1.n → (∀ j, (xRs P s0 r).2 ≤ j → j < (xRs P s0 r).1.n → xBt (xRs P s0 r).1.n (xRs P s0 r).1.pa (xRs P s0 r).1.co r j) →
      zMC false (d + 5) 0 0 0 0 mS_searchRuns Q 18 [some (.inr (.inr 14)), some (.inl (nI R)), some (.inl (nI dd)), some (.inl (nI (xRs P s0 r).2)), some (.inl (nI r)), none, none] [] H := by
    intro m
    induction m with
    | zero =>
      intro r H hr hc hn heH hyH hfH hfn hat
      have e : r = R := by omega
      subst e
      refine r_iload (zdk oS_searchRuns 11 rfl) rfl ?_
      refine r_iload_n (zdk oS_searchRuns 12 rfl) rfl rfl ?_
      refine r_icmp_ge (tgt := 85) (zdk oS_searchRuns 13 rfl) (by decide) (fun _ => ?_) (fun q9 => absurd ((Int32.le_refl (nI r))) q9)
      exact fin _ H _ rfl rfl rfl hc hn heH hyH hfH
    | succ m ihr =>
      intro r H hr hc hn heH hyH hfH hfn hat
      refine r_iload (zdk oS_searchRuns 11 rfl) rfl ?_
      refine r_iload_n (zdk oS_searchRuns 12 rfl) rfl rfl ?_
      refine r_icmp_ge (tgt := 85) (zdk oS_searchRuns 13 rfl) (by decide) (fun q9 => absurd q9 ((nI_ge (a := r) (b := R) (by omega) (by omega)))) (fun _ => ?_)
      refine r_aload_n (zdk oS_searchRuns 14 rfl) rfl rfl ?_
      refine r_geti (kf := 14) (zdk oS_searchRuns 15 rfl) rfl rfl (by decide) lF_S_50 rfl ?_
      rw [hn.1]
      by_cases he : (xRs P s0 r).1.e = none
      · have hs1 := xRs_s he
        generalize eS : (xRs P s0 r).1 = s at *
        generalize eF : (xRs P s0 r).2 = f at *
        have n200 := hc.2.1
        rw [show decide (s.e ≠ none) = false by rw [he]; rfl]
        refine r_if_ne (tgt := 85) (zdk oS_searchRuns 16 rfl) (by decide) (fun q9 => absurd ((rfl)) q9) (fun _ => ?_)
        refine r_aload_n (zdk oS_searchRuns 17 rfl) rfl rfl ?_
        refine r_geti (kf := 0) (zdk oS_searchRuns 18 rfl) rfl rfl (by decide) lF_S_11 rfl ?_
        rw [hc.1]
        refine r_istore (zdk oS_searchRuns 19 rfl) (Nat.le_of_ble_eq_true rfl) rfl ?_
        refine r_aload_n (zdk oS_searchRuns 20 rfl) rfl rfl ?_
        refine r_getr (kf := 9) (zdk oS_searchRuns 21 rfl) rfl rfl (by decide) lF_S_35 rfl ?_
        refine r_iconst (v := 0) (zdk oS_searchRuns 22 rfl) (by decide) ?_
        refine r_callS2v (M' := mA_fill) (zdk oS_searchRuns 23 rfl) lM_S_77 sA_fill (Nat.le_of_ble_eq_true rfl) rfl (spA_fill (d + 4) H 24 512 0 rfl (by decide)) ?_
        refine r_iload_n (zdk oS_searchRuns 24 rfl) rfl rfl ?_
        refine r_istore (zdk oS_searchRuns 25 rfl) (Nat.le_of_ble_eq_true rfl) rfl ?_
        have oF : ∀ a j, a ≠ 24 → (zfill H 24 512 0).1 a j = H.1 a j := fun a j ha => by rw [zf1, if_neg (fun z => ha z.1)]
        have hcs : zCS P s.n s (zfill H 24 512 0) := ⟨⟨by rw [oF 14 0 (by decide), hc.1], n200, fun i hi => by rw [oF 22 i (by decide), oF 23 i (by decide)]; exact hc.2.2 i hi⟩, zTab_0 (fun q hq => by rw [zf1, if_pos ⟨rfl, hq⟩]), ⟨by rw [oF 14 14 (by decide), hn.1], by rw [oF 14 15 (by decide), hn.2]⟩, Nat.le_refl _⟩
        have hyF : zRdy P (zfill H 24 512 0) := hyH.congr (fun a j ha => oF a j (by omega)) (fun i hi => by rw [oF 18 i (by decide)]; exact hyH.2.2.2.2.1 i hi)
        have hfF : zFq h (zfill H 24 512 0) := hfH.trans ⟨fun a j k1 k2 k3 k4 k5 k6 k7 k8 k9 k10 => oF a j k10, fun _ _ _ _ => rfl⟩
        have heF : zEndC P s h (zfill H 24 512 0) := by
          unfold zEndC at heH ⊢
          rw [he] at heH ⊢
          exact ⟨by rw [oF 14 1 (by decide)]; exact heH.1, by rw [oF 14 2 (by decide)]; exact heH.2.1, fun j => by rw [oF 15 j (by decide)]; exact heH.2.2 j⟩
        generalize zfill H 24 512 0 = H1 at hcs hyF hfF heF ⊢
        have hjv : xJv f s.n r s := ⟨hfn, Nat.le_refl _, n200, hat, fun j j1 j2 => absurd j2 (by omega)⟩
        have iexit : ∀ (X : xZ) (H : zH) (i : Nat), X = xLv P r s.n f s (s.n - f) → zCS P s.n X H → zEndC P X h H → zRdy P H → zFq h H → zMC false (d + 5) 0 0 0 0 mS_searchRuns Q 76 [some (.inr (.inr 14)), some (.inl (nI R)), some (.inl (nI dd)), some (.inl (nI f)), some (.inl (nI r)), some (.inl (nI s.n)), some (.inl (nI i))] [] H := by
          intro X H i eX hsX heX hyX hfX
          have e2 : xRs P s0 (r + 1) = (X, s.n) := by rw [hs1, eX]
          have hjX : xJv f s.n r X := by rw [eX]; exact xLv_jv hjv _ (by omega)
          refine r_iload (zdk oS_searchRuns 38 rfl) rfl ?_
          refine r_istore_n (zdk oS_searchRuns 39 rfl) rfl (Nat.le_of_ble_eq_true rfl) rfl ?_
          first | refine r_iinc (zdk oS_searchRuns 40 rfl) rfl (zinc _) rfl ?_ | refine r_iinc (zdk oS_searchRuns 40 rfl) rfl rfl rfl ?_
          refine r_goto (tgt := 18) (zdk oS_searchRuns 41 rfl) (by decide) ?_
          refine r_mask [true, true, true, true, true, false, false] rfl rfl ?_
          have i0 := ihr (r + 1) H (by omega)
          rw [e2] at i0
          exact i0 hsX.1 hsX.2.2.1 heX hyX hfX hjX.2.1 hjX.2.2.2.2
        have iloop : ∀ (m2 k : Nat) (H : zH), f + k + m2 = s.n → zCS P s.n (xLv P r s.n f s k) H → zEndC P (xLv P r s.n f s k) h H → zRdy P H → zFq h H → zMC false (d + 5) 0 0 0 0 mS_searchRuns Q 48 [some (.inr (.inr 14)), some (.inl (nI R)), some (.inl (nI dd)), some (.inl (nI f)), some (.inl (nI r)), some (.inl (nI s.n)), some (.inl (nI (f + k)))] [] H := by
          intro m2
          induction m2 with
          | zero =>
            intro k H hk hsX heX hyX hfX
            refine r_iload (zdk oS_searchRuns 26 rfl) rfl ?_
            refine r_iload (zdk oS_searchRuns 27 rfl) rfl ?_
            refine r_icmp_ge (tgt := 76) (zdk oS_searchRuns 28 rfl) (by decide) (fun _ => ?_) (fun q9 => absurd ((show nI s.n ≤ nI (f + k) by rw [show f + k = s.n by omega]; exact Int32.le_refl _)) q9)
            exact iexit _ H (f + k) (by rw [show s.n - f = k by omega]) hsX heX hyX hfX
          | succ m2 ihi =>
            intro k H hk hsX heX hyX hfX
            have hjX : xJv f s.n r (xLv P r s.n f s k) := xLv_jv hjv k (by omega)
            refine r_iload (zdk oS_searchRuns 26 rfl) rfl ?_
            refine r_iload (zdk oS_searchRuns 27 rfl) rfl ?_
            refine r_icmp_ge (tgt := 76) (zdk oS_searchRuns 28 rfl) (by decide) (fun q9 => absurd q9 ((nI_ge (a := f + k) (b := s.n) (by omega) (by omega)))) (fun _ => ?_)
            refine r_aload_n (zdk oS_searchRuns 29 rfl) rfl rfl ?_
            refine r_geti (kf := 14) (zdk oS_searchRuns 30 rfl) rfl rfl (by decide) lF_S_50 rfl ?_
            rw [hsX.2.2.1.1]
            by_cases eE : (xLv P r s.n f s k).e = none
            · rw [show decide ((xLv P r s.n f s k).e ≠ none) = false by rw [eE]; rfl]
              refine r_if_ne (tgt := 76) (zdk oS_searchRuns 31 rfl) (by decide) (fun q9 => absurd ((rfl)) q9) (fun _ => ?_)
              refine r_aload_n (zdk oS_searchRuns 32 rfl) rfl rfl ?_
              refine r_iload (zdk oS_searchRuns 33 rfl) rfl ?_
              refine r_iload (zdk oS_searchRuns 34 rfl) rfl ?_
              refine r_callV2 (M' := mS_goOnFrom) (zdk oS_searchRuns 35 rfl) lM_S_87 vS_goOnFrom rfl rfl (Nat.le_of_ble_eq_true rfl) rfl (spS_goOnFrom d H P hP (xLv P r s.n f s k) s.n (f + k) r f hsX eE hyX (by omega) (by omega) (by omega) hjX) ?_
              intro r1 h1 q1
              obtain ⟨e1, t1, t2, t3, t4⟩ := q1
              cases e1
              first | refine r_iinc (zdk oS_searchRuns 36 rfl) rfl (zinc _) rfl ?_ | refine r_iinc (zdk oS_searchRuns 36 rfl) rfl rfl rfl ?_
              refine r_goto (tgt := 48) (zdk oS_searchRuns 37 rfl) (by decide) ?_
              exact ihi (k + 1) h1 (by omega) t1 (zEndC.trans eE heX t2) t3 (hfX.trans t4)
            · rw [show decide ((xLv P r s.n f s k).e ≠ none) = true from decide_eq_true eE]
              refine r_if_ne (tgt := 76) (zdk oS_searchRuns 31 rfl) (by decide) (fun _ => ?_) (fun q9 => absurd q9 ((fBo_t)))
              exact iexit _ H (f + k) (xLv_full (N := s.n - f) eE (by omega)).symm hsX heX hyX hfX
        exact iloop (s.n - f) 0 H1 (by omega) hcs heF hyF hfF
      · rw [show decide ((xRs P s0 r).1.e ≠ none) = true from decide_eq_true he]
        refine r_if_ne (tgt := 85) (zdk oS_searchRuns 16 rfl) (by decide) (fun _ => ?_) (fun q9 => absurd q9 ((fBo_t)))
        exact fin _ H _ rfl rfl (by rw [xRs_full (N := R) he (by omega)]) hc hn heH hyH hfH
  have oF : ∀ a j, a ≠ 24 → (zfill h 24 512 0).1 a j = h.1 a j := fun a j ha => by rw [zf1, if_neg (fun z => ha z.1)]
  refine zmet (by decide +kernel) (Nat.le_of_ble_eq_true rfl) ?_
  refine r_aload_n (zdk oS_searchRuns 0 rfl) rfl rfl ?_
  refine r_getr (kf := 9) (zdk oS_searchRuns 1 rfl) rfl rfl (by decide) lF_S_35 rfl ?_
  refine r_iconst (v := 0) (zdk oS_searchRuns 2 rfl) (by decide) ?_
  refine r_callS2v (M' := mA_fill) (zdk oS_searchRuns 3 rfl) lM_S_77 sA_fill (Nat.le_of_ble_eq_true rfl) rfl (spA_fill (d + 4) h 24 512 0 rfl (by decide)) ?_
  refine r_aload_n (zdk oS_searchRuns 4 rfl) rfl rfl ?_
  refine r_iload_n (zdk oS_searchRuns 5 rfl) rfl rfl ?_
  refine r_callV1 (M' := mS_findFirstStates) (zdk oS_searchRuns 6 rfl) lM_S_83 vS_findFirstStates rfl rfl (Nat.le_of_ble_eq_true rfl) rfl (spS_findFirstStates (d + 2) (zfill h 24 512 0) P hP dd d1 d3 (by rw [oF 14 13 (by decide), hy.1]) (by rw [oF 2 3 (by decide)]; exact hy.2.2.2.1 3) ⟨⟨by rw [oF 14 0 (by decide), h0]; rfl, by show 0 ≤ 200; omega, fun i hi => absurd hi (Nat.not_lt_zero i)⟩, zTab_0 (s := xZ0) (fun q hq => by rw [zf1, if_pos ⟨rfl, hq⟩]), ⟨by rw [oF 14 14 (by decide), h14]; rfl, by rw [oF 14 15 (by decide), h15]; rfl⟩, Nat.zero_le _⟩) ?_
  intro r1 h1 q1
  obtain ⟨e1, t1, t2, t3⟩ := q1
  cases e1
  rw [es] at t1
  have oG : ∀ a j, ¬ (a = 14 ∧ (j = 0 ∨ j = 14 ∨ j = 15)) → a ≠ 22 → a ≠ 23 → a ≠ 24 → h1.1 a j = h.1 a j := fun a j k1 k2 k3 k4 => by rw [t2 a j k1 k2 k3 k4, oF a j k4]
  refine r_iconst (v := 0) (zdk oS_searchRuns 7 rfl) (by decide) ?_
  refine r_istore_n (zdk oS_searchRuns 8 rfl) rfl (Nat.le_of_ble_eq_true rfl) rfl ?_
  refine r_iconst (v := 0) (zdk oS_searchRuns 9 rfl) (by decide) ?_
  refine r_istore (zdk oS_searchRuns 10 rfl) (Nat.le_of_ble_eq_true rfl) rfl ?_
  refine rounds R 0 h1 (by omega) t1.1 t1.2.2.1 ?_ (hy.congr (fun a j ha => oG a j (by omega) (by omega) (by omega) (by omega)) (fun i hi => by rw [oG 18 i (by omega) (by decide) (by decide) (by decide)]; exact hy.2.2.2.2.1 i hi)) ⟨fun a j k1 k2 k3 k4 k5 k6 k7 k8 k9 k10 => oG a j (by omega) k8 k9 k10, fun a j k1 k2 => by rw [t3 a j k1]; rfl⟩ (Nat.zero_le _) (fun j _ j2 => ⟨j2, eco j j2⟩)
  unfold zEndC
  rw [show (xRs P s0 0).1.e = none from es0]
  exact ⟨oG 14 1 (by omega) (by decide) (by decide) (by decide), oG 14 2 (by omega) (by decide) (by decide) (by decide), fun j => oG 15 j (by omega) (by decide) (by decide) (by decide)⟩
