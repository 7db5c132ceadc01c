/-! the reference searches -/
theorem xEnd_all {P : xP} {s0 : xZ} {r R k c : Nat} (hr : r < R) (h0 : (xRs P s0 r).1.e = none) (hk : k < (xRs P s0 r).1.n - (xRs P s0 r).2) (hc : c < 2 ^ (P.np * P.np)) {X : xZ} (hX : xGo P r (xRs P s0 r).1.n ((xRs P s0 r).2 + k) (xIn P r (xRs P s0 r).1.n ((xRs P s0 r).2 + k) (xLv P r (xRs P s0 r).1.n (xRs P s0 r).2 (xRs P s0 r).1 k) c) c = X) (hE : X.e ≠ none) : (xRs P s0 R).1 = X := by
  have e1 : xIn P r (xRs P s0 r).1.n ((xRs P s0 r).2 + k) (xLv P r (xRs P s0 r).1.n (xRs P s0 r).2 (xRs P s0 r).1 k) (c + 1) = X := hX
  have e2 := xIn_full (c := c + 1) (N := 2 ^ (P.np * P.np)) (by rw [e1]; exact hE) (by omega)
  rw [e1] at e2
  have e3 : xLv P r (xRs P s0 r).1.n (xRs P s0 r).2 (xRs P s0 r).1 (k + 1) = X := e2
  have e4 := xLv_full (k := k + 1) (N := (xRs P s0 r).1.n - (xRs P s0 r).2) (by rw [e3]; exact hE) (by omega)
  rw [e3] at e4
  have e5 := xRs_s h0
  rw [e4] at e5
  have e6 := xRs_full (r := r + 1) (N := R) (by rw [e5]; exact hE) (by omega)
  rw [e6, e5]
theorem xGo_s {P : xP} {r lo i c : Nat} {s : xZ} (h : s.e = none) (hl : xLd P.np c P.kd = true) (hv : xV P.np (s.K i) (xNx P r (s.K i) c) = 0) : xGo P r lo i s c = xTry lo (xNx P r (s.K i) c) (nI i) c s := by
  unfold xGo
  rw [if_neg (by rw [h]; simp), if_neg (by rw [hl]; decide), if_neg (by rw [hv]; simp)]
theorem xGo_v {P : xP} {r lo i c : Nat} {s : xZ} (h : s.e = none) (hl : xLd P.np c P.kd = true) (hv : xV P.np (s.K i) (xNx P r (s.K i) c) ≠ 0) : xGo P r lo i s c = s.fin (some (some (xV P.np (s.K i) (xNx P r (s.K i) c), i, c, r + 1))) := by
  unfold xGo
  rw [if_neg (by rw [h]; simp), if_neg (by rw [hl]; decide), if_pos hv]
theorem xGo_n {P : xP} {r lo i c : Nat} {s : xZ} (h : s.e = none) (hl : xLd P.np c P.kd = false) : xGo P r lo i s c = s := by
  unfold xGo
  rw [if_neg (by rw [h]; simp), if_pos hl]
theorem xpos {x : Nat} (h : ¬ x = 0) : 0 < x := Nat.pos_of_ne_zero h
theorem spM_search (d : Nat) (h0 : zH) (P : xP) (R dd : Nat) (hP : xPok P) (hck : zMck h0 P.n P.ph P.vars) (hW : ∀ j, h0.1 28 j = P.W j) (hR : R ≤ 5) (hdd : dd ≤ 3) :
    zSP (d + 5) 0 0 mM_search [.inr (.inr 27), .inl (nI P.np), .inl (nI R), .inl (nI dd), .inl (nI P.kd)] h0 (fun r h' => r = .inl (some (.inl (xAns (xRs P (xFs P dd 64) R).1.e))) ∧ zMSe P (xRs P (xFs P dd 64) R).1 h0 h') := by
  generalize es : xFs P dd 64 = s0
  have es0 : s0.e = none := by rw [← es]; exact (xFs_n P dd 64 (by decide)).2
  suffices main : ∀ K : zR → zH → Prop, (∀ h', zMSe P (xRs P s0 R).1 h0 h' → K (.inl (some (.inl (xAns (xRs P s0 R).1.e)))) h') → zSP (d + 5) 0 0 mM_search [.inr (.inr 27), .inl (nI P.np), .inl (nI R), .inl (nI dd), .inl (nI P.kd)] h0 K from main _ (fun h' q => ⟨rfl, q⟩)
  intro K hK
  have n1 := hP.n1
  have n3 := hP.n3
  have v2 := hP.v2
  have v5 := hP.v5
  have k3 := hP.k3
  obtain ⟨e2n, b2n⟩ := x2nn n3
  obtain ⟨g1, eg1⟩ : ∃ g1, g1 = zput (zput (zput h0 27 21 0) 27 26 (-1)) 27 27 0 := ⟨_, rfl⟩
  have hg1 : ∀ a j, ¬ (a = 27 ∧ (j = 21 ∨ j = 26 ∨ j = 27)) → g1.1 a j = h0.1 a j := by
    intro a j ha
    rw [eg1]
    simp only [zp1]
    rw [if_neg (by omega), if_neg (by omega), if_neg (by omega)]
  have hg2 : g1.2 = h0.2 := by rw [eg1]; rfl
  have hg26 : g1.1 27 26 = -1 := by rw [eg1]; simp [zp1]
  have hg27 : g1.1 27 27 = 0 := by rw [eg1]; simp [zp1]
  -- the end without a violation
  have fin : ∀ (s : xZ) (H : zH) (L6 L7 : Option zV), (xRs P s0 R).1 = s → (s.e = none ∨ s.e = some none) → zMl P s H → zFr g1 H →
      zMC false (d + 5) 0 0 0 0 mM_search K 206 [some (.inr (.inr 27)), some (.inl (nI P.np)), some (.inl (nI R)), some (.inl (nI dd)), some (.inl (nI P.kd)), some (.inl (fBo (decide (s.e = none)))), none, none, none, none, none, none] [] H := by
    intro s H L6 L7 ee he hl hf
    subst ee
    have post : zMSe P (xRs P s0 R).1 h0 H := by
      refine ⟨hl, ?_, ?_, ?_⟩
      · intro a j c1 c2 c3 c4 c5 c6 c7 c8 c9 c10
        rw [hf.1 a j (by omega) c2 c3 c4 c5 c6 c7 c8 c9, hg1 a j (by omega)]
      · intro a j c1
        rw [hf.2 a j c1, hg2]
      · have e1 : H.1 27 26 = -1 := by rw [hf.1 27 26 (by omega) (by decide) (by decide) (by decide) (by decide) (by decide) (by decide) (by decide) (by decide), hg26]
        have e2 : H.1 27 27 = 0 := by rw [hf.1 27 27 (by omega) (by decide) (by decide) (by decide) (by decide) (by decide) (by decide) (by decide) (by decide), hg27]
        have e3 : ∀ j, H.1 43 j = h0.1 43 j := fun j => by rw [hf.1 43 j (by omega) (by decide) (by decide) (by decide) (by decide) (by decide) (by decide) (by decide) (by decide), hg1 43 j (by omega)]
        unfold zEnd
        rcases he with e | e
        · rw [e]; exact ⟨e1, e2, e3⟩
        · rw [e]; exact ⟨e1, e2, e3⟩
    have hk0 := hK H post
    rcases he with e | e
    · rw [e] at hk0
      rw [show decide ((xRs P s0 R).1.e = none) = true by rw [e]; rfl]
      refine r_iload (zdk oM_search 110 rfl) rfl ?_
      refine r_if_eq (tgt := 215) (zdk oM_search 111 rfl) (by decide) (fun q9 => absurd q9 ((fBo_t))) (fun _ => ?_)
      refine r_iconst (v := 0) (zdk oM_search 112 rfl) (by decide) ?_
      refine r_goto (tgt := 216) (zdk oM_search 113 rfl) (by decide) ?_
      refine r_iret (zdk oM_search 115 rfl) rfl ?_
      exact hk0
    · rw [e] at hk0
      rw [show decide ((xRs P s0 R).1.e = none) = false by rw [e]; rfl]
      refine r_iload (zdk oM_search 110 rfl) rfl ?_
      refine r_if_eq (tgt := 215) (zdk oM_search 111 rfl) (by decide) (fun _ => ?_) (fun q9 => absurd ((rfl)) q9)
      refine r_iconst (v := -1) (zdk oM_search 114 rfl) (by decide) ?_
      refine r_iret (zdk oM_search 115 rfl) rfl ?_
      exact hk0
  -- the rounds
  have rounds : ∀ (m r : Nat) (H : zH), r + m = R → ((xRs P s0 r).1.e = none ∨ (xRs P s0 r).1.e = some none) → zMl P (xRs P s0 r).1 H → zFr g1 H → (xRs P s0 r).2 ≤ (xRs P s0 r).1.n → (∀ j, (xRs P s0 r).2 ≤ j → j < (xRs P s0 r).1.n → xAt (xRs P s0 r).1.n (xRs P s0 r).1.pa r j) →
      zMC false (d + 5) 0 0 0 0 mM_search K 29 [some (.inr (.inr 27)), some (.inl (nI P.np)), some (.inl (nI R)), some (.inl (nI dd)), some (.inl (nI P.kd)), some (.inl (fBo (decide ((xRs P s0 r).1.e = none)))), some (.inl (nI (xRs P s0 r).2)), some (.inl (nI r)), none, none, none, none] [] H := by
    intro m
    induction m with
    | zero =>
      intro r H hr he hl hf hfn hat
      have e : r = R := by omega
      subst e
      refine r_iload (zdk oM_search 18 rfl) rfl ?_
      refine r_iload_n (zdk oM_search 19 rfl) rfl rfl ?_
      refine r_icmp_ge (tgt := 206) (zdk oM_search 20 rfl) (by decide) (fun _ => ?_) (fun q9 => absurd ((Int32.le_refl (nI r))) q9)
      refine r_mask [true, true, true, true, true, true, false, false, false, false, false, false] rfl rfl ?_
      exact fin _ H none none rfl he hl hf
    | succ m ihr =>
      intro r H hr he hl hf hfn hat
      refine r_iload (zdk oM_search 18 rfl) rfl ?_
      refine r_iload_n (zdk oM_search 19 rfl) rfl rfl ?_
      refine r_icmp_ge (tgt := 206) (zdk oM_search 20 rfl) (by decide) (fun q9 => absurd q9 ((nI_ge (a := r) (b := R) (by omega) (by omega)))) (fun _ => ?_)
      refine r_iload (zdk oM_search 21 rfl) rfl ?_
      rcases he with he | he
      · -- a round is made
        have hs1 := xRs_s he
        generalize eS : (xRs P s0 r).1 = s at *
        generalize eF : (xRs P s0 r).2 = f at *
        have n200 := hl.2.1
        rw [show decide (s.e = none) = true by rw [he]; rfl]
        refine r_if_eq (tgt := 206) (zdk oM_search 22 rfl) (by decide) (fun q9 => absurd q9 ((fBo_t))) (fun _ => ?_)
        refine r_aload_n (zdk oM_search 23 rfl) rfl rfl ?_
        refine r_geti (kf := 21) (zdk oM_search 24 rfl) rfl rfl (by decide) lF_M_185 rfl ?_
        rw [hl.1]
        refine r_istore (zdk oM_search 25 rfl) (Nat.le_of_ble_eq_true rfl) rfl ?_
        refine r_iload (zdk oM_search 26 rfl) rfl ?_
        refine r_istore (zdk oM_search 27 rfl) (Nat.le_of_ble_eq_true rfl) rfl ?_
        -- out of the states
        have iexit : ∀ (X : xZ) (H : zH) (i : Nat), X = xLv P r s.n f s (s.n - f) → (X.e = none ∨ X.e = some none) → zMl P X H → zFr g1 H → xIv f s.n r X → zMC false (d + 5) 0 0 0 0 mM_search K 196 [some (.inr (.inr 27)), some (.inl (nI P.np)), some (.inl (nI R)), some (.inl (nI dd)), some (.inl (nI P.kd)), some (.inl (fBo (decide (X.e = none)))), some (.inl (nI f)), some (.inl (nI r)), some (.inl (nI s.n)), some (.inl (nI i)), none, none] [] H := by
          intro X H i eX hX hlX hfX hiv
          have e2 : xRs P s0 (r + 1) = (X, s.n) := by rw [hs1, eX]
          refine r_iload (zdk oM_search 106 rfl) rfl ?_
          refine r_istore (zdk oM_search 107 rfl) (Nat.le_of_ble_eq_true rfl) rfl ?_
          first | refine r_iinc (zdk oM_search 108 rfl) rfl (zinc _) rfl ?_ | refine r_iinc (zdk oM_search 108 rfl) rfl rfl rfl ?_
          refine r_goto (tgt := 29) (zdk oM_search 109 rfl) (by decide) ?_
          refine r_mask [true, true, true, true, true, true, true, true, false, false, false, false] rfl rfl ?_
          have i0 := ihr (r + 1) H (by omega)
          rw [e2] at i0
          exact i0 hX hlX hfX hiv.2.1 hiv.2.2.2.2
        -- the states of a round
        have iloop : ∀ (m2 k : Nat) (H : zH), f + k + m2 = s.n → ((xLv P r s.n f s k).e = none ∨ (xLv P r s.n f s k).e = some none) → zMl P (xLv P r s.n f s k) H → zFr g1 H → xIv f s.n r (xLv P r s.n f s k) →
            zMC false (d + 5) 0 0 0 0 mM_search K 50 [some (.inr (.inr 27)), some (.inl (nI P.np)), some (.inl (nI R)), some (.inl (nI dd)), some (.inl (nI P.kd)), some (.inl (fBo (decide ((xLv P r s.n f s k).e = none)))), some (.inl (nI f)), some (.inl (nI r)), some (.inl (nI s.n)), some (.inl (nI (f + k))), none, none] [] H := by
          intro m2
          induction m2 with
          | zero =>
            intro k H hk heX hlX hfX hiv
            have e : s.n - f = k := by omega
            refine r_iload (zdk oM_search 28 rfl) rfl ?_
            refine r_iload (zdk oM_search 29 rfl) rfl ?_
            refine r_icmp_ge (tgt := 196) (zdk oM_search 30 rfl) (by decide) (fun _ => ?_) (fun q9 => absurd ((show nI s.n ≤ nI (f + k) by rw [show f + k = s.n by omega]; exact Int32.le_refl _)) q9)
            exact iexit _ H (f + k) (by rw [e]) heX hlX hfX hiv
          | succ m2 ihi =>
            intro k H hk heX hlX hfX hiv
            refine r_iload (zdk oM_search 28 rfl) rfl ?_
            refine r_iload (zdk oM_search 29 rfl) rfl ?_
            refine r_icmp_ge (tgt := 196) (zdk oM_search 30 rfl) (by decide) (fun q9 => absurd q9 ((nI_ge (a := f + k) (b := s.n) (by omega) (by omega)))) (fun _ => ?_)
            refine r_iload (zdk oM_search 31 rfl) rfl ?_
            rcases heX with heX | heX
            · have hlv : xLv P r s.n f s (k + 1) = xIn P r s.n (f + k) (xLv P r s.n f s k) (2 ^ (P.np * P.np)) := rfl
              have hall : ∀ c, c < 2 ^ (P.np * P.np) → ∀ X : xZ, xGo P r s.n (f + k) (xIn P r s.n (f + k) (xLv P r s.n f s k) c) c = X → X.e ≠ none → (xRs P s0 R).1 = X := fun c hc X hX hE => by
                rw [← eS, ← eF] at hX hk
                exact xEnd_all (show r < R by omega) (by rw [eS]; exact he) (show k < _ by omega) hc hX hE
              generalize eT : xLv P r s.n f s k = T at *
              rw [show decide (T.e = none) = true by rw [heX]; rfl]
              refine r_if_eq (tgt := 196) (zdk oM_search 32 rfl) (by decide) (fun q9 => absurd q9 ((fBo_t))) (fun _ => ?_)
              refine r_iconst (v := 0) (zdk oM_search 33 rfl) (by decide) ?_
              refine r_istore (zdk oM_search 34 rfl) (Nat.le_of_ble_eq_true rfl) rfl ?_
              have cexit : ∀ (X : xZ) (H : zH) (c : Nat), X = xIn P r s.n (f + k) T (2 ^ (P.np * P.np)) → (X.e = none ∨ X.e = some none) → zMl P X H → zFr g1 H → xIv f s.n r X → zMC false (d + 5) 0 0 0 0 mM_search K 190 [some (.inr (.inr 27)), some (.inl (nI P.np)), some (.inl (nI R)), some (.inl (nI dd)), some (.inl (nI P.kd)), some (.inl (fBo (decide (X.e = none)))), some (.inl (nI f)), some (.inl (nI r)), some (.inl (nI s.n)), some (.inl (nI (f + k))), some (.inl (nI c)), none] [] H := by
                intro X H c eX hX hlX hfX hiv
                have i0 := ihi (k + 1) H (by omega)
                rw [hlv, ← eX] at i0
                first | refine r_iinc (zdk oM_search 104 rfl) rfl (zinc _) rfl ?_ | refine r_iinc (zdk oM_search 104 rfl) rfl rfl rfl ?_
                refine r_goto (tgt := 50) (zdk oM_search 105 rfl) (by decide) ?_
                refine r_mask [true, true, true, true, true, true, true, true, true, true, false, false] rfl rfl ?_
                exact i0 hX hlX hfX hiv
              have cloop : ∀ (m3 c : Nat) (H : zH), c + m3 = 2 ^ (P.np * P.np) → ((xIn P r s.n (f + k) T c).e = none ∨ (xIn P r s.n (f + k) T c).e = some none) → zMl P (xIn P r s.n (f + k) T c) H → zFr g1 H → xIv f s.n r (xIn P r s.n (f + k) T c) →
                  zMC false (d + 5) 0 0 0 0 mM_search K 65 [some (.inr (.inr 27)), some (.inl (nI P.np)), some (.inl (nI R)), some (.inl (nI dd)), some (.inl (nI P.kd)), some (.inl (fBo (decide ((xIn P r s.n (f + k) T c).e = none)))), some (.inl (nI f)), some (.inl (nI r)), some (.inl (nI s.n)), some (.inl (nI (f + k))), some (.inl (nI c)), none] [] H := by
                intro m3
                induction m3 with
                | zero =>
                  intro c H hc heU hlU hfU hivU
                  refine r_iload (zdk oM_search 35 rfl) rfl ?_
                  refine r_iconst (v := 1) (zdk oM_search 36 rfl) (by decide) ?_
                  refine r_iload_n (zdk oM_search 37 rfl) rfl rfl ?_
                  refine r_iload_n (zdk oM_search 38 rfl) rfl rfl ?_
                  refine r_imul (zdk oM_search 39 rfl) ?_
                  refine r_ishl (zdk oM_search 40 rfl) ?_
                  rw [e2n]
                  refine r_icmp_ge (tgt := 190) (zdk oM_search 41 rfl) (by decide) (fun _ => ?_) (fun q9 => absurd ((show nI (2 ^ (P.np * P.np)) ≤ nI c by rw [show c = 2 ^ (P.np * P.np) by omega]; exact Int32.le_refl _)) q9)
                  exact cexit _ H c (by rw [show c = 2 ^ (P.np * P.np) by omega]) heU hlU hfU hivU
                | succ m3 ihc =>
                  intro c H hc heU hlU hfU hivU
                  refine r_iload (zdk oM_search 35 rfl) rfl ?_
                  refine r_iconst (v := 1) (zdk oM_search 36 rfl) (by decide) ?_
                  refine r_iload_n (zdk oM_search 37 rfl) rfl rfl ?_
                  refine r_iload_n (zdk oM_search 38 rfl) rfl rfl ?_
                  refine r_imul (zdk oM_search 39 rfl) ?_
                  refine r_ishl (zdk oM_search 40 rfl) ?_
                  rw [e2n]
                  refine r_icmp_ge (tgt := 190) (zdk oM_search 41 rfl) (by decide) (fun q9 => absurd q9 ((nI_ge (a := c) (b := 2 ^ (P.np * P.np)) (by omega) (by omega)))) (fun _ => ?_)
                  refine r_iload (zdk oM_search 42 rfl) rfl ?_
                  rcases heU with heU | heU
                  · have hgo : xIn P r s.n (f + k) T (c + 1) = xGo P r s.n (f + k) (xIn P r s.n (f + k) T c) c := rfl
                    have hend := hall c (by omega)
                    generalize eU : xIn P r s.n (f + k) T c = U at *
                    rw [show decide (U.e = none) = true by rw [heU]; rfl]
                    refine r_if_eq (tgt := 190) (zdk oM_search 43 rfl) (by decide) (fun q9 => absurd q9 ((fBo_t))) (fun _ => ?_)
                    have hi : f + k < U.n := by have := hivU.2.1; omega
                    have hU200 := hlU.2.1
                    obtain ⟨q39, q40, q41, q42, qok, qco⟩ := hlU.2.2 (f + k) hi
                    have ecl : (nI (f + k)).toNatClampNeg = f + k := nI_clamp (by omega)
                    have hg8 := xtop8 qok.1
                    have hat0 : xAt U.n U.pa r (f + k) := hivU.2.2.2.1 (f + k) (by omega) (by omega)
                    generalize eK : U.K (f + k) = K0 at *
                    have fr8 : ∀ {A : zH}, zFr g1 A → ∀ a j, (a = 27 ∧ (j = 7 ∨ j = 8)) ∨ a = 28 ∨ a = 29 ∨ a = 30 ∨ a = 31 → A.1 a j = h0.1 a j := fun hA a j ha => by rw [hA.1 a j (by omega) (by omega) (by omega) (by omega) (by omega) (by omega) (by omega) (by omega) (by omega), hg1 a j (by omega)]
                    have q8 : H.1 27 8 = nI P.vars := by rw [fr8 hfU 27 8 (by omega), hck.2.1]
                    refine r_aload_n (zdk oM_search 44 rfl) rfl rfl ?_
                    refine r_iload_n (zdk oM_search 45 rfl) rfl rfl ?_
                    refine r_aload_n (zdk oM_search 46 rfl) rfl rfl ?_
                    refine r_getr (kf := 22) (zdk oM_search 47 rfl) rfl rfl (by decide) lF_M_43 rfl ?_
                    refine r_iload (zdk oM_search 48 rfl) rfl ?_
                    refine r_lald (zdk oM_search 49 rfl) rfl (vp_in_nI (n := f + k) (by omega) (by decide)) ?_
                    rw [ecl, q39]
                    refine r_callV2 (M' := mM_decode) (zdk oM_search 50 rfl) lM_M_206 vM_decode rfl rfl (Nat.le_of_ble_eq_true rfl) rfl (spM_decode (d + 4) H P.np P.vars (K0 / 16 ^ 15) (fun t => xD K0 (xT P.vars t)) q8 n3 v5 hg8 (fun j _ => xD_lt _ _)) ?_
                    intro r1 h2 p2
                    obtain ⟨e2, s2, o2, l2⟩ := p2
                    cases e2
                    have s2' : ∀ p v, p < P.np → v < P.vars → h2.1 34 (5 * p + v) = dg K0 (5 * p + v) := fun p v hp hv => by rw [s2 p v hp hv, xT_pv hv]; rfl
                    have hf2 : zFr g1 h2 := ⟨fun a j c1 c2 c3 c4 c5 c6 c7 c8 c9 => by rw [o2 a j c3]; exact hfU.1 a j c1 c2 c3 c4 c5 c6 c7 c8 c9, fun a j c1 => by rw [l2]; exact hfU.2 a j c1⟩
                    have hl2 : zMl P U h2 := hlU.congr (fun a j ha => o2 a j (by omega)) l2
                    refine r_aload_n (zdk oM_search 51 rfl) rfl rfl ?_
                    refine r_iload_n (zdk oM_search 52 rfl) rfl rfl ?_
                    refine r_iload (zdk oM_search 53 rfl) rfl ?_
                    refine r_iload (zdk oM_search 54 rfl) rfl ?_
                    refine r_callV3i (M' := mM_laid) (zdk oM_search 55 rfl) lM_M_191 vM_laid rfl rfl (Nat.le_of_ble_eq_true rfl) rfl (spM_laid (d + 4) h2 P.np c P.kd n3 (by omega) k3) ?_
                    have hf3 : zFr g1 (zset h2 P.np c P.np) := ⟨fun a j c1 c2 c3 c4 c5 c6 c7 c8 c9 => by rw [zset1, if_neg (fun z => c2 z.1)]; exact hf2.1 a j c1 c2 c3 c4 c5 c6 c7 c8 c9, fun a j c1 => hf2.2 a j c1⟩
                    have hl3 : zMl P U (zset h2 P.np c P.np) := hl2.congr (fun a j ha => by rw [zset1, if_neg (by omega)]) rfl
                    have z33 : ∀ p, p < P.np → (zset h2 P.np c P.np).1 33 p = nI (xSt P.np c p) := fun p hp => by rw [zset1, if_pos ⟨rfl, hp⟩]
                    have z34 : ∀ p v, p < P.np → v < P.vars → (zset h2 P.np c P.np).1 34 (5 * p + v) = dg K0 (5 * p + v) := fun p v hp hv => by rw [zset1, if_neg (by omega)]; exact s2' p v hp hv
                    generalize zset h2 P.np c P.np = h3 at hf3 hl3 z33 z34 ⊢
                    cases hLd : xLd P.np c P.kd with
                    | false =>
                      refine r_if_eq (tgt := 184) (zdk oM_search 56 rfl) (by decide) (fun _ => ?_) (fun q9 => absurd ((rfl)) q9)
                      have eG := xGo_n (r := r) (lo := s.n) (i := f + k) heU hLd
                      rw [eG] at hgo
                      have i0 := ihc (c + 1) h3 (by omega)
                      rw [hgo] at i0
                      first | refine r_iinc (zdk oM_search 102 rfl) rfl (zinc _) rfl ?_ | refine r_iinc (zdk oM_search 102 rfl) rfl rfl rfl ?_
                      refine r_goto (tgt := 65) (zdk oM_search 103 rfl) (by decide) ?_
                      have i1 := i0 (Or.inl heU) hl3 hf3 hivU
                      rw [show decide (U.e = none) = true by rw [heU]; rfl] at i1
                      exact i1
                    | true =>
                      refine r_if_eq (tgt := 184) (zdk oM_search 56 rfl) (by decide) (fun q9 => absurd q9 ((fBo_t))) (fun _ => ?_)
                      refine r_aload_n (zdk oM_search 57 rfl) rfl rfl ?_
                      refine r_iload_n (zdk oM_search 58 rfl) rfl rfl ?_
                      refine r_iload (zdk oM_search 59 rfl) rfl ?_
                      refine r_callV2 (M' := mM_go) (zdk oM_search 60 rfl) lM_M_180 vM_go rfl rfl (Nat.le_of_ble_eq_true rfl) rfl (spM_go d h3 P.n P.ph P.vars P.np r (zMck_congr (fr8 hf3) hck) hP.n4 n1 (by omega) (by omega) (fun p v hp hv => by rw [z34 p v hp hv]; exact dg_good _ _) (fun p hp => ⟨xSt P.np c p, xSt_lt _ _ _, z33 p hp⟩)) ?_
                      intro r1 h4 p4
                      obtain ⟨e4, m4, s4, o4, l4⟩ := p4
                      cases e4
                      have w28 : h3.1 28 = P.W := funext (fun j => by rw [fr8 hf3 28 j (by omega), hW j])
                      have s4' : ∀ p v, p < P.np → v < P.vars → h4.1 34 (5 * p + v) = nI (xD (xNx P r K0 c) (5 * p + v)) := by
                        intro p v hp hv
                        rw [s4 p v hp hv, w28, z33 p hp, xNx_dig hP hp hv]
                        exact pNxt_congr hP.hq hP.p1 v5 hv (fun v hv => z34 p v hp hv) (fun i hi => pMsg_congr hP.hq hP.p1 v2 v5 (fun v hv => z34 i v hi hv))
                      have hf4 : zFr g1 h4 := ⟨fun a j c1 c2 c3 c4 c5 c6 c7 c8 c9 => by rw [o4 a j (by omega) c3 c4 (by omega) c6]; exact hf3.1 a j c1 c2 c3 c4 c5 c6 c7 c8 c9, fun a j c1 => by rw [l4]; exact hf3.2 a j c1⟩
                      have hl4 : zMl P U h4 := hl3.congr (fun a j ha => o4 a j (by omega) (by omega) (by omega) (by omega) (by omega)) l4
                      obtain ⟨t39, t40, t41, t42, -, -⟩ := hl4.2.2 (f + k) hi
                      rw [eK] at t39 t42
                      have q84 : h4.1 27 8 = nI P.vars := by rw [fr8 hf4 27 8 (by omega), hck.2.1]
                      refine r_aload_n (zdk oM_search 61 rfl) rfl rfl ?_
                      refine r_iload_n (zdk oM_search 62 rfl) rfl rfl ?_
                      refine r_aload_n (zdk oM_search 63 rfl) rfl rfl ?_
                      refine r_getr (kf := 22) (zdk oM_search 64 rfl) rfl rfl (by decide) lF_M_43 rfl ?_
                      refine r_iload (zdk oM_search 65 rfl) rfl ?_
                      refine r_lald (zdk oM_search 66 rfl) rfl (vp_in_nI (n := f + k) (by omega) (by decide)) ?_
                      refine r_aload_n (zdk oM_search 67 rfl) rfl rfl ?_
                      refine r_getr (kf := 25) (zdk oM_search 68 rfl) rfl rfl (by decide) lF_M_53 rfl ?_
                      refine r_iload (zdk oM_search 69 rfl) rfl ?_
                      refine r_iald (zdk oM_search 70 rfl) rfl (vp_in_nI (n := f + k) (by omega) (by decide)) ?_
                      rw [ecl, t39, t42]
                      refine r_callV3i (M' := mM_violation) (zdk oM_search 71 rfl) lM_M_210 vM_violation rfl rfl (Nat.le_of_ble_eq_true rfl) rfl (spM_violation (d + 4) h4 P.np P.vars (K0 / 16 ^ 15) (K0 / 16 ^ 15) (fun t => xD K0 (xT P.vars t)) (fun p => xD (xNx P r K0 c) (5 * p)) q84 n3 (by omega) v5 hg8 hg8 (fun j _ => xD_lt _ _) (fun p hp => ⟨xD_lt _ _, by have := s4' p 0 hp (by omega); rw [Nat.add_zero] at this; exact this⟩)) ?_
                      rw [show xVi (fun p => xD (xNx P r K0 c) (5 * p)) (fun p => (fun t => xD K0 (xT P.vars t)) (p * P.vars)) (K0 / 16 ^ 15) P.np = xV P.np K0 (xNx P r K0 c) by
                        unfold xV
                        congr 1
                        funext p
                        have := xT_pv (vars := P.vars) (p := p) (v := 0) (by omega)
                        rw [Nat.add_zero, Nat.add_zero] at this
                        show xD K0 (xT P.vars (p * P.vars)) = _
                        rw [this]]
                      have hv3 : xV P.np K0 (xNx P r K0 c) ≤ 3 := xVi_lt _ _ _ _
                      refine r_istore (zdk oM_search 72 rfl) (Nat.le_of_ble_eq_true rfl) rfl ?_
                      refine r_iload (zdk oM_search 73 rfl) rfl ?_
                      by_cases hv : xV P.np K0 (xNx P r K0 c) = 0
                      · -- it goes on
                        refine r_if_le (tgt := 153) (zdk oM_search 74 rfl) (by decide) (fun _ => ?_) (fun q9 => absurd ((nI_z hv)) q9)
                        have eG := xGo_s (P := P) (r := r) (lo := s.n) (i := f + k) heU hLd (by rw [eK]; exact hv)
                        rw [eK] at eG
                        have ok' := xNx_ok hP (r := r) (c := c) qok
                        refine r_aload_n (zdk oM_search 85 rfl) rfl rfl ?_
                        refine r_iload (zdk oM_search 86 rfl) rfl ?_
                        refine r_aload_n (zdk oM_search 87 rfl) rfl rfl ?_
                        refine r_iload_n (zdk oM_search 88 rfl) rfl rfl ?_
                        refine r_aload_n (zdk oM_search 89 rfl) rfl rfl ?_
                        refine r_getr (kf := 25) (zdk oM_search 90 rfl) rfl rfl (by decide) lF_M_53 rfl ?_
                        refine r_iload (zdk oM_search 91 rfl) rfl ?_
                        refine r_iald (zdk oM_search 92 rfl) rfl (vp_in_nI (n := f + k) (by omega) (by decide)) ?_
                        rw [ecl, t42]
                        refine r_callV2j (M' := mM_code) (zdk oM_search 93 rfl) lM_M_194 vM_code rfl rfl (Nat.le_of_ble_eq_true rfl) rfl (spM_code (d + 4) h4 P.np P.vars (K0 / 16 ^ 15) (xD (xNx P r K0 c)) q84 n3 v5 hg8 (fun p v hp hv => ⟨xD_lt _ _, s4' p v hp hv⟩)) ?_
                        rw [show xRc (fun t => xD (xNx P r K0 c) (xT P.vars t)) (K0 / 16 ^ 15) (P.np * P.vars) = xR P.np P.vars (xNx P r K0 c) by
                          unfold xR
                          rw [xNx_top hP]]
                        refine r_iload (zdk oM_search 94 rfl) rfl ?_
                        refine r_iload (zdk oM_search 95 rfl) rfl ?_
                        refine r_aload_n (zdk oM_search 96 rfl) rfl rfl ?_
                        refine r_getr (kf := 25) (zdk oM_search 97 rfl) rfl rfl (by decide) lF_M_53 rfl ?_
                        refine r_iload (zdk oM_search 98 rfl) rfl ?_
                        refine r_iald (zdk oM_search 99 rfl) rfl (vp_in_nI (n := f + k) (by omega) (by decide)) ?_
                        rw [ecl, t42]
                        refine r_callV5 (M' := mM_add) (zdk oM_search 100 rfl) lM_M_198 vM_add rfl rfl (Nat.le_of_ble_eq_true rfl) rfl (spM_add (d + 4) h4 s.n U.n (nJ (xR P.np P.vars (xNx P r K0 c))) (nI (f + k)) (nI c) (nI (K0 / 16 ^ 15)) hl4.1 hivU.2.1 hl4.2.1) ?_
                        intro r5 h5 p5
                        rw [show K0 / 16 ^ 15 = xNx P r K0 c / 16 ^ 15 from (xNx_top hP).symm] at p5
                        obtain ⟨er, l5, o5, j5⟩ := zMl_add hP hl4 ok' (show c < 512 by omega) heU p5
                        have hf5 : zFr g1 h5 := ⟨fun a j c1 c2 c3 c4 c5 c6 c7 c8 c9 => by rw [o5 a j (by omega) c7 c8 c9]; exact hf4.1 a j c1 c2 c3 c4 c5 c6 c7 c8 c9, fun a j c1 => by rw [j5 a j c1]; exact hf4.2 a j c1⟩
                        have hx := xTry_e (lo := s.n) (K := xNx P r K0 c) (pa := nI (f + k)) (c := c) heU
                        have hiv5 := xTry_iv (K := xNx P r K0 c) (i := f + k) (c := c) hivU (by omega) (by omega)
                        rw [eG] at hgo
                        have i0 := ihc (c + 1) h5 (by omega)
                        rw [hgo] at i0
                        generalize xTry s.n (xNx P r K0 c) (nI (f + k)) c U = Z at *
                        cases er
                        refine r_istore (zdk oM_search 101 rfl) (Nat.le_of_ble_eq_true rfl) rfl ?_
                        first | refine r_iinc (zdk oM_search 102 rfl) rfl (zinc _) rfl ?_ | refine r_iinc (zdk oM_search 102 rfl) rfl rfl rfl ?_
                        refine r_goto (tgt := 65) (zdk oM_search 103 rfl) (by decide) ?_
                        refine r_mask [true, true, true, true, true, true, true, true, true, true, true, false] rfl rfl ?_
                        exact i0 hx l5 hf5 hiv5
                      · -- a violation
                        refine r_if_le (tgt := 153) (zdk oM_search 74 rfl) (by decide) (fun q9 => absurd q9 ((nI_nz (xpos hv) (by omega)))) (fun _ => ?_)
                        have eG := xGo_v (P := P) (r := r) (lo := s.n) (i := f + k) heU hLd (by rw [eK]; exact hv)
                        rw [eK] at eG
                        have efin := hend _ eG (by simp)
                        refine r_aload_n (zdk oM_search 75 rfl) rfl rfl ?_
                        refine r_iload_n (zdk oM_search 76 rfl) rfl rfl ?_
                        refine r_iload (zdk oM_search 77 rfl) rfl ?_
                        refine r_iload (zdk oM_search 78 rfl) rfl ?_
                        refine r_iload (zdk oM_search 79 rfl) rfl ?_
                        refine r_iconst (v := 1) (zdk oM_search 80 rfl) (by decide) ?_
                        refine r_iadd (zdk oM_search 81 rfl) ?_
                        refine r_tp (nI_1 r) ?_
                        have hw1 : ∀ k', k' < r + 1 → ∃ q, q < 200 ∧ (wI U.pa U.co (f + k) c k').1 = nI q ∧ h4.1 40 q = U.pa q ∧ h4.1 41 q = nI (U.co q) := by
                          intro k' hk'
                          obtain ⟨q, a1, a2, a3⟩ := wI_at (co := U.co) (c := c) (i := f + k) hU200 k' (r - k') (by rw [show k' + (r - k') = r by omega]; exact hat0)
                          obtain ⟨-, b2, b3, -⟩ := hl4.2.2 q a1
                          exact ⟨q, by omega, a2, b2, b3⟩
                        have hw2 : ∀ k', k' ≤ r + 1 → (wI U.pa U.co (f + k) c k').2 < 512 := by
                          intro k' hk'
                          rcases k' with _ | k'
                          · show c < 512
                            omega
                          · obtain ⟨q, a1, a2, a3⟩ := wI_at (co := U.co) (c := c) (i := f + k) hU200 k' (r - k') (by rw [show k' + (r - k') = r by omega]; exact hat0)
                            show U.co (wI U.pa U.co (f + k) c k').1.toNatClampNeg < 512
                            rw [a2, nI_clamp (by omega)]
                            exact (hl4.2.2 q a1).2.2.2.2.2
                        refine r_callV4 (M' := mM_tell) (zdk oM_search 82 rfl) lM_M_214 vM_tell rfl rfl (Nat.le_of_ble_eq_true rfl) rfl (spM_tell (d + 3) h4 U.pa U.co P.np (f + k) c (r + 1) n1 n3 (by omega) hw1 hw2) ?_
                        intro r6 h6 p6
                        obtain ⟨e6, t1, t2, t3, t4, t5, t6⟩ := p6
                        cases e6
                        refine r_iload (zdk oM_search 83 rfl) rfl ?_
                        refine r_iret (zdk oM_search 84 rfl) rfl ?_
                        have hk0 := hK h6
                        rw [efin] at hk0
                        refine hk0 ⟨hl4.congr (fun a j ha => t5 a j (by omega) (by omega) (by omega)) t6, ?_, ?_, ?_⟩
                        · intro a j c1 c2 c3 c4 c5 c6 c7 c8 c9 c10
                          rw [t5 a j (by omega) c2 c10, hf4.1 a j (by omega) c2 c3 c4 c5 c6 c7 c8 c9, hg1 a j (by omega)]
                        · intro a j c1
                          rw [t6, hf4.2 a j c1, hg2]
                        · exact ⟨t1, t2, by omega, t3, t4⟩
                  · have e0 : (xIn P r s.n (f + k) T c).e ≠ none := by rw [heU]; simp
                    have hex := cexit _ H c (xIn_full (N := 2 ^ (P.np * P.np)) e0 (by omega)).symm (Or.inr heU) hlU hfU hivU
                    rw [show decide ((xIn P r s.n (f + k) T c).e = none) = false by rw [heU]; rfl] at hex ⊢
                    refine r_if_eq (tgt := 190) (zdk oM_search 43 rfl) (by decide) (fun _ => ?_) (fun q9 => absurd ((rfl)) q9)
                    exact hex
              have c0 := cloop (2 ^ (P.np * P.np)) 0 H (by omega) (Or.inl heX) hlX hfX hiv
              rw [show decide ((xIn P r s.n (f + k) T 0).e = none) = true by show decide (T.e = none) = true; rw [heX]; rfl] at c0
              exact c0
            · have e0 : (xLv P r s.n f s k).e ≠ none := by rw [heX]; simp
              have hex := iexit _ H (f + k) (xLv_full (N := s.n - f) e0 (by omega)).symm (Or.inr heX) hlX hfX hiv
              rw [show decide ((xLv P r s.n f s k).e = none) = false by rw [heX]; rfl] at hex ⊢
              refine r_if_eq (tgt := 196) (zdk oM_search 32 rfl) (by decide) (fun _ => ?_) (fun q9 => absurd ((rfl)) q9)
              exact hex
        have i0 := iloop (s.n - f) 0 H (by omega) (Or.inl he) hl hf ⟨hfn, Nat.le_refl _, n200, hat, fun j j1 j2 => absurd j2 (by show ¬ j < s.n; omega)⟩
        rw [show decide ((xLv P r s.n f s 0).e = none) = true by show decide (s.e = none) = true; rw [he]; rfl] at i0
        exact i0
      · have e0 : (xRs P s0 r).1.e ≠ none := by rw [he]; simp
        have hex := fin _ H none none (by rw [xRs_full (N := R) e0 (by omega)]) (Or.inr he) hl hf
        rw [show decide ((xRs P s0 r).1.e = none) = false by rw [he]; rfl] at hex ⊢
        refine r_if_eq (tgt := 206) (zdk oM_search 22 rfl) (by decide) (fun _ => ?_) (fun q9 => absurd ((rfl)) q9)
        refine r_mask [true, true, true, true, true, true, false, false, false, false, false, false] rfl rfl ?_
        exact hex
  refine zmet (by decide +kernel) (Nat.le_of_ble_eq_true rfl) ?_
  refine r_aload_n (zdk oM_search 0 rfl) rfl rfl ?_
  refine r_iconst (v := 0) (zdk oM_search 1 rfl) (by decide) ?_
  refine r_puti (kf := 21) (zdk oM_search 2 rfl) rfl rfl (by decide) lF_M_185 rfl rfl (by decide +kernel) (Or.inl rfl) ?_
  refine r_aload_n (zdk oM_search 3 rfl) rfl rfl ?_
  refine r_iconst (v := -1) (zdk oM_search 4 rfl) (by decide) ?_
  refine r_puti (kf := 26) (zdk oM_search 5 rfl) rfl rfl (by decide) lF_M_56 rfl rfl (by decide +kernel) (Or.inl rfl) ?_
  refine r_aload_n (zdk oM_search 6 rfl) rfl rfl ?_
  refine r_iconst (v := 0) (zdk oM_search 7 rfl) (by decide) ?_
  refine r_puti (kf := 27) (zdk oM_search 8 rfl) rfl rfl (by decide) lF_M_188 rfl rfl (by decide +kernel) (Or.inl rfl) ?_
  refine r_aload_n (zdk oM_search 9 rfl) rfl rfl ?_
  refine r_iload_n (zdk oM_search 10 rfl) rfl rfl ?_
  refine r_iload_n (zdk oM_search 11 rfl) rfl rfl ?_
  rw [← eg1]
  refine r_callV2 (M' := mM_firstStates) (zdk oM_search 12 rfl) lM_M_202 vM_firstStates rfl rfl (Nat.le_of_ble_eq_true rfl) rfl (spM_firstStates (d + 3) g1 P dd hP (by rw [hg1 27 8 (by omega), hck.2.1]) (fun j => by rw [hg1 28 j (by omega), hW j]) (by rw [eg1]; simp [zp1]) hdd) ?_
  intro r1 h2 p2
  obtain ⟨e2, l2, f2⟩ := p2
  cases e2
  refine r_istore (zdk oM_search 13 rfl) (Nat.le_of_ble_eq_true rfl) rfl ?_
  refine r_iconst (v := 0) (zdk oM_search 14 rfl) (by decide) ?_
  refine r_istore (zdk oM_search 15 rfl) (Nat.le_of_ble_eq_true rfl) rfl ?_
  refine r_iconst (v := 0) (zdk oM_search 16 rfl) (by decide) ?_
  refine r_istore (zdk oM_search 17 rfl) (Nat.le_of_ble_eq_true rfl) rfl ?_
  rw [es] at l2
  have r0 := rounds R 0 h2 (by omega) (Or.inl es0) l2 f2 (Nat.zero_le _) (fun j _ j2 => j2)
  rw [show decide ((xRs P s0 0).1.e = none) = true by show decide (s0.e = none) = true; rw [es0]; rfl] at r0
  exact r0
