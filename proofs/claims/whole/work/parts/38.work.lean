/-! an expression is worked out -/
theorem zdec2 (n : Nat) : nI (n + 2) + Int32.ofInt (-2) = nI n := by
  have : nI (n + 2) = nI n + nI 2 := by rw [nI_add]
  rw [this]
  have e : nI 2 + Int32.ofInt (-2) = 0 := by decide
  rw [Int32.add_assoc, e, Int32.add_zero]
def Stk (f : Nat → Int32) : List Int32 → Prop
  | [] => True
  | v :: s => f s.length = v ∧ Stk f s
theorem Stk_upd {f : Nat → Int32} {i : Nat} {x : Int32} : ∀ {s : List Int32}, Stk f s → s.length ≤ i → Stk (upd f i x) s := by
  intro s
  induction s with
  | nil => intro _ _; trivial
  | cons v s ih =>
    intro h hl
    simp only [List.length_cons] at hl
    refine ⟨?_, ih h.2 (by omega)⟩
    simp only [upd]
    rw [if_neg (by omega)]
    exact h.1
theorem fStep_inv {c0 : Int32 → Int32} {c1 : Int32 → Int32 → Int32} {c2 : Int32 → Int32 → Int32 → Int32} {w : Int32} {s s' : List Int32} (h : fStep c0 c1 c2 w s = some s') :
    (fParts w = 0 ∧ s' = c0 w :: s) ∨ (fParts w = 1 ∧ ∃ a t, s = a :: t ∧ s' = c1 w a :: t) ∨ (fParts w = 2 ∧ ∃ a b t, s = a :: b :: t ∧ s' = c2 w a b :: t) ∨ (fParts w = 3 ∧ ∃ a b c t, s = a :: b :: c :: t ∧ s' = (if a = 0 then c else b) :: t) := by
  unfold fStep at h
  split at h
  · rename_i e; cases h; exact Or.inl ⟨e, rfl⟩
  · rename_i a t e; cases h; exact Or.inr (Or.inl ⟨e, a, t, rfl, rfl⟩)
  · rename_i a b t e; cases h; exact Or.inr (Or.inr (Or.inl ⟨e, a, b, t, rfl, rfl⟩))
  · rename_i a b c t e; cases h; exact Or.inr (Or.inr (Or.inr ⟨e, a, b, c, t, rfl, rfl⟩))
  · cases h
theorem fRun_succ {g : Int32 → List Int32 → Option (List Int32)} {W : Nat → Int32} {a k : Nat} {s r : List Int32} (h : fRun g W a (k + 1) s = some r) : ∃ s', g (W (a + k)) s = some s' ∧ fRun g W a k s' = some r := by
  simp only [fRun] at h
  cases e : g (W (a + k)) s with
  | none => rw [e] at h; cases h
  | some s' => rw [e] at h; exact ⟨s', rfl, h⟩
theorem gc0_congr {h H : zH} {G : Nat} {w : Int32} (ho : ∀ a j, a ≠ G + 4 → H.1 a j = h.1 a j) : gc0 H G w = gc0 h G w := by
  simp only [gc0]
  rw [ho G 7 (by omega), ho G 2 (by omega), ho G 6 (by omega), ho (G + 1) 1 (by omega), ho (G + 1) 2 (by omega), ho (G + 1) 3 (by omega), ho (G + 1) 4 (by omega), ho (G + 1) 5 (by omega), ho (G + 3) _ (by omega)]
theorem gc1_congr {h H : zH} {G : Nat} {w a : Int32} (ho : ∀ a j, a ≠ G + 4 → H.1 a j = h.1 a j) : gc1 H G w a = gc1 h G w a := by
  simp only [gc1]
  rw [ho (G + 1) 6 (by omega), ho (G + 2) _ (by omega), show H.1 (G + 2) = h.1 (G + 2) from funext (fun j => ho (G + 2) j (by omega))]
/-- what is worked out: the value of the expression's words, cut at the greatest -/
def zWO (h : zH) (G n vars e : Nat) (gr : Int32) : zR → zH → Prop := fun r h' =>
  ∃ p q dd x, qP (h.1 2) n vars e p q dd ∧ fRun (fStep (gc0 h G) (gc1 h G) f2) (h.1 2) p (q - p) [] = some [x] ∧ fGood x ∧ r = .inl (some (.inl (if gr < x then gr else x))) ∧ (∀ a j, a ≠ G + 4 → h'.1 a j = h.1 a j) ∧ h'.2 = h.2
theorem spG_workOut_9 (d : Nat) (h : zH) (n ph vars f me pt : Nat) (hck : zChk h n ph vars) (hn : n ≤ 400) (hf : h.1 9 5 = nI f) (hfp : f < ph) (hme : h.1 9 7 = nI me) (hme7 : me < 7) (hpr : ¬ h.1 9 2 = 0) (hpt : pt ≤ vars) (hok : fOk vars (decide (¬ pt = 0)) (gc0 h 9) (gc1 h 9) f2) :
    zSP (d + 2) 0 0 mG_workOut [.inr (.inr 9), .inl (nI pt - 1)] h (zWO h 9 n vars (f * (vars + 1) + pt) (if pt = 0 then 99 else h.1 2 (1 + pt))) := by
  obtain ⟨k5, k6, p1, p4, v2, v5, hex⟩ := hck
  have heq : (f + 1) * (vars + 1) ≤ ph * (vars + 1) := Nat.mul_le_mul_right _ hfp
  have heq2 : f * (vars + 1) + pt < ph * (vars + 1) := by
    rw [Nat.succ_mul] at heq
    omega
  have he24 : ph * (vars + 1) ≤ 24 := Nat.le_trans (Nat.mul_le_mul p4 (show vars + 1 ≤ 6 by omega)) (by decide)
  obtain ⟨p, q, dd, hqp, b1, b2, -⟩ := hex _ heq2
  have hmod : (f * (vars + 1) + pt) % (vars + 1) = pt := by
    rw [Nat.mul_comm, Nat.mul_add_mod]
    exact Nat.mod_eq_of_lt (by omega)
  have hpE : pE (h.1 2) n vars (decide (¬ pt = 0)) 12 p = .inr (q, dd) := by
    have := hqp.2
    rw [hmod] at this
    exact this
  obtain ⟨w1, w2, w3⟩ := pE_words 12 p q dd hpE
  have hp4 := qE_le v5 hn _ _ hqp.1
  obtain ⟨hpq, hrun⟩ := pE_run hok 12 p q dd hpE
  obtain ⟨x, hx, hrx⟩ := hrun []
  have hp1 : 1 ≤ p := by
    have : ∀ e p, qE (h.1 2) n vars e = .inr p → 2 ≤ p := by
      intro e
      induction e with
      | zero => intro p hq; simp only [qE] at hq; cases hq; omega
      | succ e ih =>
        intro p hq
        simp only [qE] at hq
        cases r : qE (h.1 2) n vars e with
        | inl y => rw [r] at hq; cases hq
        | inr p0 =>
          rw [r] at hq
          simp only at hq
          cases r2 : pE (h.1 2) n vars (decide (¬ e % (vars + 1) = 0)) 12 p0 with
          | inl y => rw [r2] at hq; cases hq
          | inr y =>
            obtain ⟨q1, d1⟩ := y
            rw [r2] at hq
            cases hq
            have := ih p0 r
            have := (pE_words 12 p0 _ d1 r2).1
            omega
    have := this _ p hqp.1
    omega
  generalize hgr : (if pt = 0 then (99 : Int32) else h.1 2 (1 + pt)) = gr
  generalize hE : f * (vars + 1) + pt = e at *
  have ee : (nI e).toNatClampNeg = e := nI_clamp (by omega)
  have ee1 : (nI (e + 1)).toNatClampNeg = e + 1 := nI_clamp (by omega)
  suffices main : ∀ K : zR → zH → Prop, (∀ H : zH, (∀ a j, a ≠ 13 → H.1 a j = h.1 a j) → H.2 = h.2 → K (.inl (some (.inl (if gr < x then gr else x)))) H) → zSP (d + 2) 0 0 mG_workOut [.inr (.inr 9), .inl (nI pt - 1)] h K from
    main _ (fun H h1 h2 => ⟨p, q, dd, x, hqp, hrx, hx, rfl, h1, h2⟩)
  intro K hK
  have loop : ∀ (k : Nat) (s : List Int32) (H : zH), k ≤ q - p → (∀ a j, a ≠ 13 → H.1 a j = h.1 a j) → H.2 = h.2 → Stk (H.1 13) s → (∀ v ∈ s, fGood v) → fRun (fStep (gc0 h 9) (gc1 h 9) f2) (h.1 2) p k s = some [x] → s.length + k ≤ 399 →
      zMC false (d + 2) 0 0 0 0 mG_workOut K 61 [some (.inr (.inr 9)), some (.inl (nI pt - 1)), some (.inl gr), some (.inl (nI e)), some (.inl (nI p)), some (.inl (nI s.length)), some (.inl (nI (p + k - 1))), none] [] H := by
    intro k
    induction k with
    | zero =>
      intro s H _ ho hl hst hgs hr hlen
      simp only [fRun] at hr
      cases hr
      refine r_iload (zdk oG_workOut 35 rfl) rfl ?_
      refine r_iload (zdk oG_workOut 36 rfl) rfl ?_
      refine r_icmp_lt (tgt := 243) (zdk oG_workOut 37 rfl) (by decide) (fun _ => ?_) (fun q9 => absurd ((nI_lt (a := p + 0 - 1) (b := p) (by omega) (by omega))) q9)
      refine r_aload_n (zdk oG_workOut 119 rfl) rfl rfl ?_
      refine r_getr (kf := 4) (zdk oG_workOut 120 rfl) rfl rfl (by decide) lF_G_26 rfl ?_
      refine r_iconst (v := 0) (zdk oG_workOut 121 rfl) (by decide) ?_
      refine r_iald (zdk oG_workOut 122 rfl) rfl (vp_in_nI (n := 0) (by decide) (by decide)) ?_
      rw [show H.1 13 (0 : Int32).toNatClampNeg = x from hst.1]
      refine r_iload_n (zdk oG_workOut 123 rfl) rfl rfl ?_
      refine r_mmin (zdk oG_workOut 124 rfl) lM_G_86 lX_minS lX_math lX_minC (Nat.le_of_ble_eq_true rfl) rfl ?_
      refine r_iret (zdk oG_workOut 125 rfl) rfl ?_
      exact hK H ho hl
    | succ k ih =>
      intro s H hk ho hl hst hgs hr hlen
      have epk : p + (k + 1) - 1 = p + k := by omega
      rw [epk]
      have ek : (nI (p + k)).toNatClampNeg = p + k := nI_clamp (by omega)
      have g2 : H.1 2 = h.1 2 := funext (fun j => ho 2 j (by decide))
      have g7 : H.1 9 7 = nI me := by rw [ho 9 7 (by decide), hme]
      have gp : ¬ H.1 9 2 = 0 := by rw [ho 9 2 (by decide)]; exact hpr
      obtain ⟨s', hs1, hs2⟩ := fRun_succ hr
      have hcan := w3 (p + k) (by omega) (by omega)
      generalize hw : h.1 2 (p + k) = w at *
      have back : ∀ (s' : List Int32) (H' : zH), (∀ a j, a ≠ 13 → H'.1 a j = H.1 a j) → H'.2 = H.2 → Stk (H'.1 13) s' → (∀ v ∈ s', fGood v) → fRun (fStep (gc0 h 9) (gc1 h 9) f2) (h.1 2) p k s' = some [x] → s'.length ≤ s.length + 1 → zMC false (d + 2) 0 0 0 0 mG_workOut K 237 [some (.inr (.inr 9)), some (.inl (nI pt - 1)), some (.inl gr), some (.inl (nI e)), some (.inl (nI p)), some (.inl (nI s'.length)), some (.inl (nI (p + k))), some (.inl w)] [] H' := by
        intro s' H' ho' hl' hst' hg' hr' hlen'
        refine r_iinc (zdk oG_workOut 117 rfl) rfl (show nI (p + k) + Int32.ofInt (-1) = nI (p + k - 1) by rw [show p + k = (p + k - 1) + 1 by omega]; exact zdec _) rfl ?_
        refine r_goto (tgt := 61) (zdk oG_workOut 118 rfl) (by decide) ?_
        refine r_mask [true, true, true, true, true, true, true, false] rfl rfl ?_
        exact ih s' H' (by omega) (fun a j ha => (ho' a j ha).trans (ho a j ha)) (hl'.trans hl) hst' hg' hr' (by omega)
      refine r_iload (zdk oG_workOut 35 rfl) rfl ?_
      refine r_iload (zdk oG_workOut 36 rfl) rfl ?_
      refine r_icmp_lt (tgt := 243) (zdk oG_workOut 37 rfl) (by decide) (fun q9 => absurd q9 ((nI_nlt (a := p + k) (b := p) (by omega) (by omega)))) (fun _ => ?_)
      refine r_aload_n (zdk oG_workOut 38 rfl) rfl rfl ?_
      refine r_getr (kf := 3) (zdk oG_workOut 39 rfl) rfl rfl (by decide) lF_G_29 rfl ?_
      refine r_getr (kf := 0) (zdk oG_workOut 40 rfl) rfl rfl (by decide) lF_G_68 rfl ?_
      refine r_iload (zdk oG_workOut 41 rfl) rfl ?_
      refine r_iald (zdk oG_workOut 42 rfl) rfl (vp_in_nI (show p + k < 400 by omega) (by decide)) ?_
      rw [ek, g2, hw]
      refine r_istore (zdk oG_workOut 43 rfl) (Nat.le_of_ble_eq_true rfl) rfl ?_
      refine r_iload (zdk oG_workOut 44 rfl) rfl ?_
      refine r_callS1i (M' := mW_parts) (zdk oG_workOut 45 rfl) lM_G_71 sW_parts (Nat.le_of_ble_eq_true rfl) rfl (spW_parts (d + 1) w _) ?_
      rcases fStep_inv hs1 with ⟨m0, e0⟩ | ⟨m0, a, t, es, e0⟩ | ⟨m0, a, b, t, es, e0⟩ | ⟨m0, a, b, c, t, es, e0⟩
      · rw [m0]
        refine r_tabIn (off := 27) (tgt := 112) (zdk oG_workOut 46 rfl) (by decide) (by decide) rfl (by decide) ?_
        refine r_aload_n (zdk oG_workOut 47 rfl) rfl rfl ?_
        refine r_getr (kf := 4) (zdk oG_workOut 48 rfl) rfl rfl (by decide) lF_G_26 rfl ?_
        refine r_iload (zdk oG_workOut 49 rfl) rfl ?_
        refine r_aload_n (zdk oG_workOut 50 rfl) rfl rfl ?_
        refine r_iload (zdk oG_workOut 51 rfl) rfl ?_
        refine r_callV1i (M' := mG_ofNone) (zdk oG_workOut 52 rfl) lM_G_76 vG_ofNone rfl rfl (Nat.le_of_ble_eq_true rfl) rfl (spG_ofNone_9 d H w me vars (decide (¬ pt = 0)) g7 hme7 gp hcan m0 v5) ?_
        rw [gc0_congr (h := h) (G := 9) ho]
        refine r_iast (zdk oG_workOut 53 rfl) rfl (vp_in_nI (n := s.length) (by omega) (by decide)) ?_
        first | refine r_iinc (zdk oG_workOut 54 rfl) rfl (zinc _) rfl ?_ | refine r_iinc (zdk oG_workOut 54 rfl) rfl rfl rfl ?_
        refine r_goto (tgt := 237) (zdk oG_workOut 55 rfl) (by decide) ?_
        rw [nI_clamp (n := s.length) (by omega)]
        have gd := hok.1 w hcan m0
        have := back (gc0 h 9 w :: s) (zput H 13 s.length (gc0 h 9 w)) (fun a j ha => by rw [zp1, if_neg (fun z => ha z.1)]) rfl ⟨by rw [zp1, if_pos ⟨rfl, rfl⟩], by rw [zput_at]; exact Stk_upd hst (Nat.le_refl _)⟩ (fun v hv => by
          rcases List.mem_cons.mp hv with rfl | hv
          · exact gd
          · exact hgs v hv) (by rw [← e0]; exact hs2) (Nat.le_refl _)
        exact this
      · rw [m0]
        subst es
        have ga : fGood a := hgs a List.mem_cons_self
        simp only [List.length_cons] at *
        refine r_tabIn (off := 46) (tgt := 131) (zdk oG_workOut 46 rfl) (by decide) (by decide) rfl (by decide) ?_
        refine r_aload_n (zdk oG_workOut 56 rfl) rfl rfl ?_
        refine r_getr (kf := 4) (zdk oG_workOut 57 rfl) rfl rfl (by decide) lF_G_26 rfl ?_
        refine r_iload (zdk oG_workOut 58 rfl) rfl ?_
        refine r_iconst (v := 1) (zdk oG_workOut 59 rfl) (by decide) ?_
        refine r_isub (zdk oG_workOut 60 rfl) ?_
        refine r_tp (nI_pred t.length) ?_
        refine r_aload_n (zdk oG_workOut 61 rfl) rfl rfl ?_
        refine r_iload (zdk oG_workOut 62 rfl) rfl ?_
        refine r_aload_n (zdk oG_workOut 63 rfl) rfl rfl ?_
        refine r_getr (kf := 4) (zdk oG_workOut 64 rfl) rfl rfl (by decide) lF_G_26 rfl ?_
        refine r_iload (zdk oG_workOut 65 rfl) rfl ?_
        refine r_iconst (v := 1) (zdk oG_workOut 66 rfl) (by decide) ?_
        refine r_isub (zdk oG_workOut 67 rfl) ?_
        refine r_tp (nI_pred t.length) ?_
        refine r_iald (zdk oG_workOut 68 rfl) rfl (vp_in_nI (n := t.length) (by omega) (by decide)) ?_
        rw [nI_clamp (n := t.length) (by omega), show H.1 13 t.length = a from hst.1]
        refine r_callV2i (M' := mG_ofOne) (zdk oG_workOut 69 rfl) lM_G_79 vG_ofOne rfl rfl (Nat.le_of_ble_eq_true rfl) rfl (spG_ofOne_9 d H w a ga) ?_
        rw [gc1_congr (h := h) (G := 9) ho]
        refine r_iast (zdk oG_workOut 70 rfl) rfl (vp_in_nI (n := t.length) (by omega) (by decide)) ?_
        refine r_goto (tgt := 237) (zdk oG_workOut 71 rfl) (by decide) ?_
        rw [nI_clamp (n := t.length) (by omega)]
        have gd := hok.2.1 w a hcan m0 ga
        have := back (gc1 h 9 w a :: t) (zput H 13 t.length (gc1 h 9 w a)) (fun a' j ha => by rw [zp1, if_neg (fun z => ha z.1)]) rfl ⟨by rw [zp1, if_pos ⟨rfl, rfl⟩], by rw [zput_at]; exact Stk_upd hst.2 (Nat.le_refl _)⟩ (fun v hv => by
          rcases List.mem_cons.mp hv with rfl | hv
          · exact gd
          · exact hgs v (List.mem_cons_of_mem _ hv)) (by rw [← e0]; exact hs2) (by simp only [List.length_cons]; omega)
        exact this
      · rw [m0]
        subst es
        have ga : fGood a := hgs a List.mem_cons_self
        have gb : fGood b := hgs b (List.mem_cons_of_mem _ List.mem_cons_self)
        simp only [List.length_cons] at *
        refine r_tabIn (off := 73) (tgt := 158) (zdk oG_workOut 46 rfl) (by decide) (by decide) rfl (by decide) ?_
        first | refine r_iinc (zdk oG_workOut 72 rfl) rfl (zdec _) rfl ?_ | refine r_iinc (zdk oG_workOut 72 rfl) rfl rfl rfl ?_
        refine r_aload_n (zdk oG_workOut 73 rfl) rfl rfl ?_
        refine r_getr (kf := 4) (zdk oG_workOut 74 rfl) rfl rfl (by decide) lF_G_26 rfl ?_
        refine r_iload (zdk oG_workOut 75 rfl) rfl ?_
        refine r_iconst (v := 1) (zdk oG_workOut 76 rfl) (by decide) ?_
        refine r_isub (zdk oG_workOut 77 rfl) ?_
        refine r_tp (nI_pred t.length) ?_
        refine r_iload (zdk oG_workOut 78 rfl) rfl ?_
        refine r_aload_n (zdk oG_workOut 79 rfl) rfl rfl ?_
        refine r_getr (kf := 4) (zdk oG_workOut 80 rfl) rfl rfl (by decide) lF_G_26 rfl ?_
        refine r_iload (zdk oG_workOut 81 rfl) rfl ?_
        refine r_iald (zdk oG_workOut 82 rfl) rfl (vp_in_nI (n := t.length + 1) (by omega) (by decide)) ?_
        rw [nI_clamp (n := t.length + 1) (by omega), show H.1 13 (t.length + 1) = a from hst.1]
        refine r_aload_n (zdk oG_workOut 83 rfl) rfl rfl ?_
        refine r_getr (kf := 4) (zdk oG_workOut 84 rfl) rfl rfl (by decide) lF_G_26 rfl ?_
        refine r_iload (zdk oG_workOut 85 rfl) rfl ?_
        refine r_iconst (v := 1) (zdk oG_workOut 86 rfl) (by decide) ?_
        refine r_isub (zdk oG_workOut 87 rfl) ?_
        refine r_tp (nI_pred t.length) ?_
        refine r_iald (zdk oG_workOut 88 rfl) rfl (vp_in_nI (n := t.length) (by omega) (by decide)) ?_
        rw [nI_clamp (n := t.length) (by omega), show H.1 13 t.length = b from hst.2.1]
        refine r_callS3i (M' := mW_ofTwo) (zdk oG_workOut 89 rfl) lM_G_82 sW_ofTwo (Nat.le_of_ble_eq_true rfl) rfl (spW_ofTwo (d + 1) w a b _) ?_
        refine r_iast (zdk oG_workOut 90 rfl) rfl (vp_in_nI (n := t.length) (by omega) (by decide)) ?_
        refine r_goto (tgt := 237) (zdk oG_workOut 91 rfl) (by decide) ?_
        rw [nI_clamp (n := t.length) (by omega)]
        have gd := hok.2.2 w a b hcan m0 ga gb
        have := back (f2 w a b :: t) (zput H 13 t.length (f2 w a b)) (fun a' j ha => by rw [zp1, if_neg (fun z => ha z.1)]) rfl ⟨by rw [zp1, if_pos ⟨rfl, rfl⟩], by rw [zput_at]; exact Stk_upd hst.2.2 (Nat.le_refl _)⟩ (fun v hv => by
          rcases List.mem_cons.mp hv with rfl | hv
          · exact gd
          · exact hgs v (List.mem_cons_of_mem _ (List.mem_cons_of_mem _ hv))) (by rw [← e0]; exact hs2) (by simp only [List.length_cons]; omega)
        exact this
      · rw [m0]
        subst es
        have ga : fGood a := hgs a List.mem_cons_self
        have gb : fGood b := hgs b (by simp)
        have gc : fGood c := hgs c (by simp)
        simp only [List.length_cons] at *
        have fin : zMC false (d + 2) 0 0 0 0 mG_workOut K 236 [some (.inr (.inr 9)), some (.inl (nI pt - 1)), some (.inl gr), some (.inl (nI e)), some (.inl (nI p)), some (.inl (nI (t.length + 1))), some (.inl (nI (p + k))), some (.inl w)] [.inl (if a = 0 then c else b), .inl (nI t.length), .inr (.inr 13)] H := by
          refine r_iast (zdk oG_workOut 116 rfl) rfl (vp_in_nI (n := t.length) (by omega) (by decide)) ?_
          rw [nI_clamp (n := t.length) (by omega)]
          have gd : fGood (if a = 0 then c else b) := by
            split
            · exact gc
            · exact gb
          have := back ((if a = 0 then c else b) :: t) (zput H 13 t.length (if a = 0 then c else b)) (fun a' j ha => by rw [zp1, if_neg (fun z => ha z.1)]) rfl ⟨by rw [zp1, if_pos ⟨rfl, rfl⟩], by rw [zput_at]; exact Stk_upd hst.2.2.2 (Nat.le_refl _)⟩ (fun v hv => by
            rcases List.mem_cons.mp hv with rfl | hv
            · exact gd
            · exact hgs v (by simp [hv])) (by rw [← e0]; exact hs2) (by simp only [List.length_cons]; omega)
          exact this
        refine r_tabOut (tgt := 194) (zdk oG_workOut 46 rfl) (by decide) (by decide) ?_
        first | refine r_iinc (zdk oG_workOut 92 rfl) rfl (zdec2 _) rfl ?_ | refine r_iinc (zdk oG_workOut 92 rfl) rfl rfl rfl ?_
        refine r_aload_n (zdk oG_workOut 93 rfl) rfl rfl ?_
        refine r_getr (kf := 4) (zdk oG_workOut 94 rfl) rfl rfl (by decide) lF_G_26 rfl ?_
        refine r_iload (zdk oG_workOut 95 rfl) rfl ?_
        refine r_iconst (v := 1) (zdk oG_workOut 96 rfl) (by decide) ?_
        refine r_isub (zdk oG_workOut 97 rfl) ?_
        refine r_tp (nI_pred t.length) ?_
        refine r_aload_n (zdk oG_workOut 98 rfl) rfl rfl ?_
        refine r_getr (kf := 4) (zdk oG_workOut 99 rfl) rfl rfl (by decide) lF_G_26 rfl ?_
        refine r_iload (zdk oG_workOut 100 rfl) rfl ?_
        refine r_iconst (v := 1) (zdk oG_workOut 101 rfl) (by decide) ?_
        refine r_iadd (zdk oG_workOut 102 rfl) ?_
        refine r_tp (nI_1 (t.length + 1)) ?_
        refine r_iald (zdk oG_workOut 103 rfl) rfl (vp_in_nI (n := t.length + 1 + 1) (by omega) (by decide)) ?_
        rw [nI_clamp (n := t.length + 1 + 1) (by omega), show H.1 13 (t.length + 1 + 1) = a from hst.1]
        refine r_if_eq (tgt := 227) (zdk oG_workOut 104 rfl) (by decide) (fun hc => ?_) (fun hc => ?_)
        · rw [if_pos hc] at fin
          refine r_aload_n (zdk oG_workOut 110 rfl) rfl rfl ?_
          refine r_getr (kf := 4) (zdk oG_workOut 111 rfl) rfl rfl (by decide) lF_G_26 rfl ?_
          refine r_iload (zdk oG_workOut 112 rfl) rfl ?_
          refine r_iconst (v := 1) (zdk oG_workOut 113 rfl) (by decide) ?_
          refine r_isub (zdk oG_workOut 114 rfl) ?_
          refine r_tp (nI_pred t.length) ?_
          refine r_iald (zdk oG_workOut 115 rfl) rfl (vp_in_nI (n := t.length) (by omega) (by decide)) ?_
          rw [nI_clamp (n := t.length) (by omega), show H.1 13 t.length = c from hst.2.2.1]
          exact fin
        · rw [if_neg hc] at fin
          refine r_aload_n (zdk oG_workOut 105 rfl) rfl rfl ?_
          refine r_getr (kf := 4) (zdk oG_workOut 106 rfl) rfl rfl (by decide) lF_G_26 rfl ?_
          refine r_iload (zdk oG_workOut 107 rfl) rfl ?_
          refine r_iald (zdk oG_workOut 108 rfl) rfl (vp_in_nI (n := t.length + 1) (by omega) (by decide)) ?_
          refine r_goto (tgt := 236) (zdk oG_workOut 109 rfl) (by decide) ?_
          rw [nI_clamp (n := t.length + 1) (by omega), show H.1 13 (t.length + 1) = b from hst.2.1]
          exact fin
  have main2 : zMC false (d + 2) 0 0 0 0 mG_workOut K 18 [some (.inr (.inr 9)), some (.inl (nI pt - 1)), none, none, none, none, none, none] [.inl gr] h := by
    refine r_istore_n (zdk oG_workOut 9 rfl) rfl (Nat.le_of_ble_eq_true rfl) rfl ?_
    refine r_aload_n (zdk oG_workOut 10 rfl) rfl rfl ?_
    refine r_getr (kf := 3) (zdk oG_workOut 11 rfl) rfl rfl (by decide) lF_G_29 rfl ?_
    refine r_aload_n (zdk oG_workOut 12 rfl) rfl rfl ?_
    refine r_geti (kf := 5) (zdk oG_workOut 13 rfl) rfl rfl (by decide) lF_G_38 rfl ?_
    rw [hf]
    refine r_iload_n (zdk oG_workOut 14 rfl) rfl rfl ?_
    refine r_callV2i (M' := mP_expressionFor) (zdk oG_workOut 15 rfl) lM_G_61 vP_expressionFor rfl rfl (Nat.le_of_ble_eq_true rfl) rfl (spP_expressionFor (d + 1) h (nI f) (nI pt - 1)) ?_
    refine r_tp (y := nI e) ?_ ?_
    · rw [k6, ← hE, nI_1, pk_mul, nI_1]
      have : nI (f * (vars + 1) + 1) + (nI pt - 1) = nI (f * (vars + 1)) + nI 1 + (nI pt - nI 1) := by rw [nI_add]; rfl
      rw [this]
      have e3 : nI (f * (vars + 1)) + nI 1 + (nI pt - nI 1) = nI (f * (vars + 1)) + nI pt := by
        rw [Int32.add_assoc, Int32.add_comm (nI 1), Int32.sub_add_cancel]
      rw [e3, nI_add]
    refine r_istore_n (zdk oG_workOut 16 rfl) rfl (Nat.le_of_ble_eq_true rfl) rfl ?_
    refine r_aload_n (zdk oG_workOut 17 rfl) rfl rfl ?_
    refine r_getr (kf := 3) (zdk oG_workOut 18 rfl) rfl rfl (by decide) lF_G_29 rfl ?_
    refine r_getr (kf := 1) (zdk oG_workOut 19 rfl) rfl rfl (by decide) lF_G_65 rfl ?_
    refine r_iload_n (zdk oG_workOut 20 rfl) rfl rfl ?_
    refine r_iald (zdk oG_workOut 21 rfl) rfl (vp_in_nI (n := e) (by omega) (by decide)) ?_
    rw [ee, b1]
    refine r_istore (zdk oG_workOut 22 rfl) (Nat.le_of_ble_eq_true rfl) rfl ?_
    refine r_iconst (v := 0) (zdk oG_workOut 23 rfl) (by decide) ?_
    refine r_istore (zdk oG_workOut 24 rfl) (Nat.le_of_ble_eq_true rfl) rfl ?_
    refine r_aload_n (zdk oG_workOut 25 rfl) rfl rfl ?_
    refine r_getr (kf := 3) (zdk oG_workOut 26 rfl) rfl rfl (by decide) lF_G_29 rfl ?_
    refine r_getr (kf := 1) (zdk oG_workOut 27 rfl) rfl rfl (by decide) lF_G_65 rfl ?_
    refine r_iload_n (zdk oG_workOut 28 rfl) rfl rfl ?_
    refine r_iconst (v := 1) (zdk oG_workOut 29 rfl) (by decide) ?_
    refine r_iadd (zdk oG_workOut 30 rfl) ?_
    refine r_tp (nI_1 e) ?_
    refine r_iald (zdk oG_workOut 31 rfl) rfl (vp_in_nI (n := e + 1) (by omega) (by decide)) ?_
    rw [ee1, b2]
    refine r_iconst (v := 1) (zdk oG_workOut 32 rfl) (by decide) ?_
    refine r_isub (zdk oG_workOut 33 rfl) ?_
    refine r_tp (show nI q - 1 = nI (p + (q - p) - 1) by rw [show (1 : Int32) = nI 1 from rfl, pk_sub (by omega)]; congr 1; omega) ?_
    refine r_istore (zdk oG_workOut 34 rfl) (Nat.le_of_ble_eq_true rfl) rfl ?_
    exact loop (q - p) [] h (Nat.le_refl _) (fun _ _ _ => rfl) rfl trivial (fun v hv => by cases hv) hrx (by simp only [List.length_nil]; omega)
  refine zmet (by decide +kernel) (Nat.le_of_ble_eq_true rfl) ?_
  refine r_iload_n (zdk oG_workOut 0 rfl) rfl rfl ?_
  refine r_iconst (v := -1) (zdk oG_workOut 1 rfl) (by decide) ?_
  refine r_icmp_ne (tgt := 10) (zdk oG_workOut 2 rfl) (by decide) (fun hc => ?_) (fun hc => ?_)
  · have hpt1 : ∃ v, pt = v + 1 := by
      cases pt with
      | zero => exact absurd (by decide) hc
      | succ v => exact ⟨v, rfl⟩
    obtain ⟨v, rfl⟩ := hpt1
    rw [nI_pred]
    refine r_aload_n (zdk oG_workOut 5 rfl) rfl rfl ?_
    refine r_getr (kf := 3) (zdk oG_workOut 6 rfl) rfl rfl (by decide) lF_G_29 rfl ?_
    refine r_iload_n (zdk oG_workOut 7 rfl) rfl rfl ?_
    refine r_callV1i (M' := mP_range) (zdk oG_workOut 8 rfl) lM_G_58 vP_range rfl rfl (Nat.le_of_ble_eq_true rfl) rfl (spP_range (d + 1) h v (by omega)) ?_
    rw [nI_pred] at main2
    rw [if_neg (by omega), show 1 + (v + 1) = 2 + v by omega] at hgr
    rw [hgr]
    exact main2
  · have hpt0 : pt = 0 := by
      cases pt with
      | zero => rfl
      | succ v => rw [nI_pred] at hc; exact absurd hc (nI_nm1 (by omega))
    rw [if_pos hpt0] at hgr
    refine r_bipush (v := 99) (zdk oG_workOut 3 rfl) (by decide) ?_
    refine r_goto (tgt := 18) (zdk oG_workOut 4 rfl) (by decide) ?_
    rw [hgr]
    exact main2
theorem spG_workOut_16 (d : Nat) (h : zH) (n ph vars f me pt : Nat) (hck : zChk h n ph vars) (hn : n ≤ 400) (hf : h.1 16 5 = nI f) (hfp : f < ph) (hme : h.1 16 7 = nI me) (hme7 : me < 7) (hpr : ¬ h.1 16 2 = 0) (hpt : pt ≤ vars) (hok : fOk vars (decide (¬ pt = 0)) (gc0 h 16) (gc1 h 16) f2) :
    zSP (d + 2) 0 0 mG_workOut [.inr (.inr 16), .inl (nI pt - 1)] h (zWO h 16 n vars (f * (vars + 1) + pt) (if pt = 0 then 99 else h.1 2 (1 + pt))) := by
  obtain ⟨k5, k6, p1, p4, v2, v5, hex⟩ := hck
  have heq : (f + 1) * (vars + 1) ≤ ph * (vars + 1) := Nat.mul_le_mul_right _ hfp
  have heq2 : f * (vars + 1) + pt < ph * (vars + 1) := by
    rw [Nat.succ_mul] at heq
    omega
  have he24 : ph * (vars + 1) ≤ 24 := Nat.le_trans (Nat.mul_le_mul p4 (show vars + 1 ≤ 6 by omega)) (by decide)
  obtain ⟨p, q, dd, hqp, b1, b2, -⟩ := hex _ heq2
  have hmod : (f * (vars + 1) + pt) % (vars + 1) = pt := by
    rw [Nat.mul_comm, Nat.mul_add_mod]
    exact Nat.mod_eq_of_lt (by omega)
  have hpE : pE (h.1 2) n vars (decide (¬ pt = 0)) 12 p = .inr (q, dd) := by
    have := hqp.2
    rw [hmod] at this
    exact this
  obtain ⟨w1, w2, w3⟩ := pE_words 12 p q dd hpE
  have hp4 := qE_le v5 hn _ _ hqp.1
  obtain ⟨hpq, hrun⟩ := pE_run hok 12 p q dd hpE
  obtain ⟨x, hx, hrx⟩ := hrun []
  have hp1 : 1 ≤ p := by
    have : ∀ e p, qE (h.1 2) n vars e = .inr p → 2 ≤ p := by
      intro e
      induction e with
      | zero => intro p hq; simp only [qE] at hq; cases hq; omega
      | succ e ih =>
        intro p hq
        simp only [qE] at hq
        cases r : qE (h.1 2) n vars e with
        | inl y => rw [r] at hq; cases hq
        | inr p0 =>
          rw [r] at hq
          simp only at hq
          cases r2 : pE (h.1 2) n vars (decide (¬ e % (vars + 1) = 0)) 12 p0 with
          | inl y => rw [r2] at hq; cases hq
          | inr y =>
            obtain ⟨q1, d1⟩ := y
            rw [r2] at hq
            cases hq
            have := ih p0 r
            have := (pE_words 12 p0 _ d1 r2).1
            omega
    have := this _ p hqp.1
    omega
  generalize hgr : (if pt = 0 then (99 : Int32) else h.1 2 (1 + pt)) = gr
  generalize hE : f * (vars + 1) + pt = e at *
  have ee : (nI e).toNatClampNeg = e := nI_clamp (by omega)
  have ee1 : (nI (e + 1)).toNatClampNeg = e + 1 := nI_clamp (by omega)
  suffices main : ∀ K : zR → zH → Prop, (∀ H : zH, (∀ a j, a ≠ 20 → H.1 a j = h.1 a j) → H.2 = h.2 → K (.inl (some (.inl (if gr < x then gr else x)))) H) → zSP (d + 2) 0 0 mG_workOut [.inr (.inr 16), .inl (nI pt - 1)] h K from
    main _ (fun H h1 h2 => ⟨p, q, dd, x, hqp, hrx, hx, rfl, h1, h2⟩)
  intro K hK
  have loop : ∀ (k : Nat) (s : List Int32) (H : zH), k ≤ q - p → (∀ a j, a ≠ 20 → H.1 a j = h.1 a j) → H.2 = h.2 → Stk (H.1 20) s → (∀ v ∈ s, fGood v) → fRun (fStep (gc0 h 16) (gc1 h 16) f2) (h.1 2) p k s = some [x] → s.length + k ≤ 399 →
      zMC false (d + 2) 0 0 0 0 mG_workOut K 61 [some (.inr (.inr 16)), some (.inl (nI pt - 1)), some (.inl gr), some (.inl (nI e)), some (.inl (nI p)), some (.inl (nI s.length)), some (.inl (nI (p + k - 1))), none] [] H := by
    intro k
    induction k with
    | zero =>
      intro s H _ ho hl hst hgs hr hlen
      simp only [fRun] at hr
      cases hr
      refine r_iload (zdk oG_workOut 35 rfl) rfl ?_
      refine r_iload (zdk oG_workOut 36 rfl) rfl ?_
      refine r_icmp_lt (tgt := 243) (zdk oG_workOut 37 rfl) (by decide) (fun _ => ?_) (fun q9 => absurd ((nI_lt (a := p + 0 - 1) (b := p) (by omega) (by omega))) q9)
      refine r_aload_n (zdk oG_workOut 119 rfl) rfl rfl ?_
      refine r_getr (kf := 4) (zdk oG_workOut 120 rfl) rfl rfl (by decide) lF_G_26 rfl ?_
      refine r_iconst (v := 0) (zdk oG_workOut 121 rfl) (by decide) ?_
      refine r_iald (zdk oG_workOut 122 rfl) rfl (vp_in_nI (n := 0) (by decide) (by decide)) ?_
      rw [show H.1 20 (0 : Int32).toNatClampNeg = x from hst.1]
      refine r_iload_n (zdk oG_workOut 123 rfl) rfl rfl ?_
      refine r_mmin (zdk oG_workOut 124 rfl) lM_G_86 lX_minS lX_math lX_minC (Nat.le_of_ble_eq_true rfl) rfl ?_
      refine r_iret (zdk oG_workOut 125 rfl) rfl ?_
      exact hK H ho hl
    | succ k ih =>
      intro s H hk ho hl hst hgs hr hlen
      have epk : p + (k + 1) - 1 = p + k := by omega
      rw [epk]
      have ek : (nI (p + k)).toNatClampNeg = p + k := nI_clamp (by omega)
      have g2 : H.1 2 = h.1 2 := funext (fun j => ho 2 j (by decide))
      have g7 : H.1 16 7 = nI me := by rw [ho 16 7 (by decide), hme]
      have gp : ¬ H.1 16 2 = 0 := by rw [ho 16 2 (by decide)]; exact hpr
      obtain ⟨s', hs1, hs2⟩ := fRun_succ hr
      have hcan := w3 (p + k) (by omega) (by omega)
      generalize hw : h.1 2 (p + k) = w at *
      have back : ∀ (s' : List Int32) (H' : zH), (∀ a j, a ≠ 20 → H'.1 a j = H.1 a j) → H'.2 = H.2 → Stk (H'.1 20) s' → (∀ v ∈ s', fGood v) → fRun (fStep (gc0 h 16) (gc1 h 16) f2) (h.1 2) p k s' = some [x] → s'.length ≤ s.length + 1 → zMC false (d + 2) 0 0 0 0 mG_workOut K 237 [some (.inr (.inr 16)), some (.inl (nI pt - 1)), some (.inl gr), some (.inl (nI e)), some (.inl (nI p)), some (.inl (nI s'.length)), some (.inl (nI (p + k))), some (.inl w)] [] H' := by
        intro s' H' ho' hl' hst' hg' hr' hlen'
        refine r_iinc (zdk oG_workOut 117 rfl) rfl (show nI (p + k) + Int32.ofInt (-1) = nI (p + k - 1) by rw [show p + k = (p + k - 1) + 1 by omega]; exact zdec _) rfl ?_
        refine r_goto (tgt := 61) (zdk oG_workOut 118 rfl) (by decide) ?_
        refine r_mask [true, true, true, true, true, true, true, false] rfl rfl ?_
        exact ih s' H' (by omega) (fun a j ha => (ho' a j ha).trans (ho a j ha)) (hl'.trans hl) hst' hg' hr' (by omega)
      refine r_iload (zdk oG_workOut 35 rfl) rfl ?_
      refine r_iload (zdk oG_workOut 36 rfl) rfl ?_
      refine r_icmp_lt (tgt := 243) (zdk oG_workOut 37 rfl) (by decide) (fun q9 => absurd q9 ((nI_nlt (a := p + k) (b := p) (by omega) (by omega)))) (fun _ => ?_)
      refine r_aload_n (zdk oG_workOut 38 rfl) rfl rfl ?_
      refine r_getr (kf := 3) (zdk oG_workOut 39 rfl) rfl rfl (by decide) lF_G_29 rfl ?_
      refine r_getr (kf := 0) (zdk oG_workOut 40 rfl) rfl rfl (by decide) lF_G_68 rfl ?_
      refine r_iload (zdk oG_workOut 41 rfl) rfl ?_
      refine r_iald (zdk oG_workOut 42 rfl) rfl (vp_in_nI (show p + k < 400 by omega) (by decide)) ?_
      rw [ek, g2, hw]
      refine r_istore (zdk oG_workOut 43 rfl) (Nat.le_of_ble_eq_true rfl) rfl ?_
      refine r_iload (zdk oG_workOut 44 rfl) rfl ?_
      refine r_callS1i (M' := mW_parts) (zdk oG_workOut 45 rfl) lM_G_71 sW_parts (Nat.le_of_ble_eq_true rfl) rfl (spW_parts (d + 1) w _) ?_
      rcases fStep_inv hs1 with ⟨m0, e0⟩ | ⟨m0, a, t, es, e0⟩ | ⟨m0, a, b, t, es, e0⟩ | ⟨m0, a, b, c, t, es, e0⟩
      · rw [m0]
        refine r_tabIn (off := 27) (tgt := 112) (zdk oG_workOut 46 rfl) (by decide) (by decide) rfl (by decide) ?_
        refine r_aload_n (zdk oG_workOut 47 rfl) rfl rfl ?_
        refine r_getr (kf := 4) (zdk oG_workOut 48 rfl) rfl rfl (by decide) lF_G_26 rfl ?_
        refine r_iload (zdk oG_workOut 49 rfl) rfl ?_
        refine r_aload_n (zdk oG_workOut 50 rfl) rfl rfl ?_
        refine r_iload (zdk oG_workOut 51 rfl) rfl ?_
        refine r_callV1i (M' := mG_ofNone) (zdk oG_workOut 52 rfl) lM_G_76 vG_ofNone rfl rfl (Nat.le_of_ble_eq_true rfl) rfl (spG_ofNone_16 d H w me vars (decide (¬ pt = 0)) g7 hme7 gp hcan m0 v5) ?_
        rw [gc0_congr (h := h) (G := 16) ho]
        refine r_iast (zdk oG_workOut 53 rfl) rfl (vp_in_nI (n := s.length) (by omega) (by decide)) ?_
        first | refine r_iinc (zdk oG_workOut 54 rfl) rfl (zinc _) rfl ?_ | refine r_iinc (zdk oG_workOut 54 rfl) rfl rfl rfl ?_
        refine r_goto (tgt := 237) (zdk oG_workOut 55 rfl) (by decide) ?_
        rw [nI_clamp (n := s.length) (by omega)]
        have gd := hok.1 w hcan m0
        have := back (gc0 h 16 w :: s) (zput H 20 s.length (gc0 h 16 w)) (fun a j ha => by rw [zp1, if_neg (fun z => ha z.1)]) rfl ⟨by rw [zp1, if_pos ⟨rfl, rfl⟩], by rw [zput_at]; exact Stk_upd hst (Nat.le_refl _)⟩ (fun v hv => by
          rcases List.mem_cons.mp hv with rfl | hv
          · exact gd
          · exact hgs v hv) (by rw [← e0]; exact hs2) (Nat.le_refl _)
        exact this
      · rw [m0]
        subst es
        have ga : fGood a := hgs a List.mem_cons_self
        simp only [List.length_cons] at *
        refine r_tabIn (off := 46) (tgt := 131) (zdk oG_workOut 46 rfl) (by decide) (by decide) rfl (by decide) ?_
        refine r_aload_n (zdk oG_workOut 56 rfl) rfl rfl ?_
        refine r_getr (kf := 4) (zdk oG_workOut 57 rfl) rfl rfl (by decide) lF_G_26 rfl ?_
        refine r_iload (zdk oG_workOut 58 rfl) rfl ?_
        refine r_iconst (v := 1) (zdk oG_workOut 59 rfl) (by decide) ?_
        refine r_isub (zdk oG_workOut 60 rfl) ?_
        refine r_tp (nI_pred t.length) ?_
        refine r_aload_n (zdk oG_workOut 61 rfl) rfl rfl ?_
        refine r_iload (zdk oG_workOut 62 rfl) rfl ?_
        refine r_aload_n (zdk oG_workOut 63 rfl) rfl rfl ?_
        refine r_getr (kf := 4) (zdk oG_workOut 64 rfl) rfl rfl (by decide) lF_G_26 rfl ?_
        refine r_iload (zdk oG_workOut 65 rfl) rfl ?_
        refine r_iconst (v := 1) (zdk oG_workOut 66 rfl) (by decide) ?_
        refine r_isub (zdk oG_workOut 67 rfl) ?_
        refine r_tp (nI_pred t.length) ?_
        refine r_iald (zdk oG_workOut 68 rfl) rfl (vp_in_nI (n := t.length) (by omega) (by decide)) ?_
        rw [nI_clamp (n := t.length) (by omega), show H.1 20 t.length = a from hst.1]
        refine r_callV2i (M' := mG_ofOne) (zdk oG_workOut 69 rfl) lM_G_79 vG_ofOne rfl rfl (Nat.le_of_ble_eq_true rfl) rfl (spG_ofOne_16 d H w a ga) ?_
        rw [gc1_congr (h := h) (G := 16) ho]
        refine r_iast (zdk oG_workOut 70 rfl) rfl (vp_in_nI (n := t.length) (by omega) (by decide)) ?_
        refine r_goto (tgt := 237) (zdk oG_workOut 71 rfl) (by decide) ?_
        rw [nI_clamp (n := t.length) (by omega)]
        have gd := hok.2.1 w a hcan m0 ga
        have := back (gc1 h 16 w a :: t) (zput H 20 t.length (gc1 h 16 w a)) (fun a' j ha => by rw [zp1, if_neg (fun z => ha z.1)]) rfl ⟨by rw [zp1, if_pos ⟨rfl, rfl⟩], by rw [zput_at]; exact Stk_upd hst.2 (Nat.le_refl _)⟩ (fun v hv => by
          rcases List.mem_cons.mp hv with rfl | hv
          · exact gd
          · exact hgs v (List.mem_cons_of_mem _ hv)) (by rw [← e0]; exact hs2) (by simp only [List.length_cons]; omega)
        exact this
      · rw [m0]
        subst es
        have ga : fGood a := hgs a List.mem_cons_self
        have gb : fGood b := hgs b (List.mem_cons_of_mem _ List.mem_cons_self)
        simp only [List.length_cons] at *
        refine r_tabIn (off := 73) (tgt := 158) (zdk oG_workOut 46 rfl) (by decide) (by decide) rfl (by decide) ?_
        first | refine r_iinc (zdk oG_workOut 72 rfl) rfl (zdec _) rfl ?_ | refine r_iinc (zdk oG_workOut 72 rfl) rfl rfl rfl ?_
        refine r_aload_n (zdk oG_workOut 73 rfl) rfl rfl ?_
        refine r_getr (kf := 4) (zdk oG_workOut 74 rfl) rfl rfl (by decide) lF_G_26 rfl ?_
        refine r_iload (zdk oG_workOut 75 rfl) rfl ?_
        refine r_iconst (v := 1) (zdk oG_workOut 76 rfl) (by decide) ?_
        refine r_isub (zdk oG_workOut 77 rfl) ?_
        refine r_tp (nI_pred t.length) ?_
        refine r_iload (zdk oG_workOut 78 rfl) rfl ?_
        refine r_aload_n (zdk oG_workOut 79 rfl) rfl rfl ?_
        refine r_getr (kf := 4) (zdk oG_workOut 80 rfl) rfl rfl (by decide) lF_G_26 rfl ?_
        refine r_iload (zdk oG_workOut 81 rfl) rfl ?_
        refine r_iald (zdk oG_workOut 82 rfl) rfl (vp_in_nI (n := t.length + 1) (by omega) (by decide)) ?_
        rw [nI_clamp (n := t.length + 1) (by omega), show H.1 20 (t.length + 1) = a from hst.1]
        refine r_aload_n (zdk oG_workOut 83 rfl) rfl rfl ?_
        refine r_getr (kf := 4) (zdk oG_workOut 84 rfl) rfl rfl (by decide) lF_G_26 rfl ?_
        refine r_iload (zdk oG_workOut 85 rfl) rfl ?_
        refine r_iconst (v := 1) (zdk oG_workOut 86 rfl) (by decide) ?_
        refine r_isub (zdk oG_workOut 87 rfl) ?_
        refine r_tp (nI_pred t.length) ?_
        refine r_iald (zdk oG_workOut 88 rfl) rfl (vp_in_nI (n := t.length) (by omega) (by decide)) ?_
        rw [nI_clamp (n := t.length) (by omega), show H.1 20 t.length = b from hst.2.1]
        refine r_callS3i (M' := mW_ofTwo) (zdk oG_workOut 89 rfl) lM_G_82 sW_ofTwo (Nat.le_of_ble_eq_true rfl) rfl (spW_ofTwo (d + 1) w a b _) ?_
        refine r_iast (zdk oG_workOut 90 rfl) rfl (vp_in_nI (n := t.length) (by omega) (by decide)) ?_
        refine r_goto (tgt := 237) (zdk oG_workOut 91 rfl) (by decide) ?_
        rw [nI_clamp (n := t.length) (by omega)]
        have gd := hok.2.2 w a b hcan m0 ga gb
        have := back (f2 w a b :: t) (zput H 20 t.length (f2 w a b)) (fun a' j ha => by rw [zp1, if_neg (fun z => ha z.1)]) rfl ⟨by rw [zp1, if_pos ⟨rfl, rfl⟩], by rw [zput_at]; exact Stk_upd hst.2.2 (Nat.le_refl _)⟩ (fun v hv => by
          rcases List.mem_cons.mp hv with rfl | hv
          · exact gd
          · exact hgs v (List.mem_cons_of_mem _ (List.mem_cons_of_mem _ hv))) (by rw [← e0]; exact hs2) (by simp only [List.length_cons]; omega)
        exact this
      · rw [m0]
        subst es
        have ga : fGood a := hgs a List.mem_cons_self
        have gb : fGood b := hgs b (by simp)
        have gc : fGood c := hgs c (by simp)
        simp only [List.length_cons] at *
        have fin : zMC false (d + 2) 0 0 0 0 mG_workOut K 236 [some (.inr (.inr 16)), some (.inl (nI pt - 1)), some (.inl gr), some (.inl (nI e)), some (.inl (nI p)), some (.inl (nI (t.length + 1))), some (.inl (nI (p + k))), some (.inl w)] [.inl (if a = 0 then c else b), .inl (nI t.length), .inr (.inr 20)] H := by
          refine r_iast (zdk oG_workOut 116 rfl) rfl (vp_in_nI (n := t.length) (by omega) (by decide)) ?_
          rw [nI_clamp (n := t.length) (by omega)]
          have gd : fGood (if a = 0 then c else b) := by
            split
            · exact gc
            · exact gb
          have := back ((if a = 0 then c else b) :: t) (zput H 20 t.length (if a = 0 then c else b)) (fun a' j ha => by rw [zp1, if_neg (fun z => ha z.1)]) rfl ⟨by rw [zp1, if_pos ⟨rfl, rfl⟩], by rw [zput_at]; exact Stk_upd hst.2.2.2 (Nat.le_refl _)⟩ (fun v hv => by
            rcases List.mem_cons.mp hv with rfl | hv
            · exact gd
            · exact hgs v (by simp [hv])) (by rw [← e0]; exact hs2) (by simp only [List.length_cons]; omega)
          exact this
        refine r_tabOut (tgt := 194) (zdk oG_workOut 46 rfl) (by decide) (by decide) ?_
        first | refine r_iinc (zdk oG_workOut 92 rfl) rfl (zdec2 _) rfl ?_ | refine r_iinc (zdk oG_workOut 92 rfl) rfl rfl rfl ?_
        refine r_aload_n (zdk oG_workOut 93 rfl) rfl rfl ?_
        refine r_getr (kf := 4) (zdk oG_workOut 94 rfl) rfl rfl (by decide) lF_G_26 rfl ?_
        refine r_iload (zdk oG_workOut 95 rfl) rfl ?_
        refine r_iconst (v := 1) (zdk oG_workOut 96 rfl) (by decide) ?_
        refine r_isub (zdk oG_workOut 97 rfl) ?_
        refine r_tp (nI_pred t.length) ?_
        refine r_aload_n (zdk oG_workOut 98 rfl) rfl rfl ?_
        refine r_getr (kf := 4) (zdk oG_workOut 99 rfl) rfl rfl (by decide) lF_G_26 rfl ?_
        refine r_iload (zdk oG_workOut 100 rfl) rfl ?_
        refine r_iconst (v := 1) (zdk oG_workOut 101 rfl) (by decide) ?_
        refine r_iadd (zdk oG_workOut 102 rfl) ?_
        refine r_tp (nI_1 (t.length + 1)) ?_
        refine r_iald (zdk oG_workOut 103 rfl) rfl (vp_in_nI (n := t.length + 1 + 1) (by omega) (by decide)) ?_
        rw [nI_clamp (n := t.length + 1 + 1) (by omega), show H.1 20 (t.length + 1 + 1) = a from hst.1]
        refine r_if_eq (tgt := 227) (zdk oG_workOut 104 rfl) (by decide) (fun hc => ?_) (fun hc => ?_)
        · rw [if_pos hc] at fin
          refine r_aload_n (zdk oG_workOut 110 rfl) rfl rfl ?_
          refine r_getr (kf := 4) (zdk oG_workOut 111 rfl) rfl rfl (by decide) lF_G_26 rfl ?_
          refine r_iload (zdk oG_workOut 112 rfl) rfl ?_
          refine r_iconst (v := 1) (zdk oG_workOut 113 rfl) (by decide) ?_
          refine r_isub (zdk oG_workOut 114 rfl) ?_
          refine r_tp (nI_pred t.length) ?_
          refine r_iald (zdk oG_workOut 115 rfl) rfl (vp_in_nI (n := t.length) (by omega) (by decide)) ?_
          rw [nI_clamp (n := t.length) (by omega), show H.1 20 t.length = c from hst.2.2.1]
          exact fin
        · rw [if_neg hc] at fin
          refine r_aload_n (zdk oG_workOut 105 rfl) rfl rfl ?_
          refine r_getr (kf := 4) (zdk oG_workOut 106 rfl) rfl rfl (by decide) lF_G_26 rfl ?_
          refine r_iload (zdk oG_workOut 107 rfl) rfl ?_
          refine r_iald (zdk oG_workOut 108 rfl) rfl (vp_in_nI (n := t.length + 1) (by omega) (by decide)) ?_
          refine r_goto (tgt := 236) (zdk oG_workOut 109 rfl) (by decide) ?_
          rw [nI_clamp (n := t.length + 1) (by omega), show H.1 20 (t.length + 1) = b from hst.2.1]
          exact fin
  have main2 : zMC false (d + 2) 0 0 0 0 mG_workOut K 18 [some (.inr (.inr 16)), some (.inl (nI pt - 1)), none, none, none, none, none, none] [.inl gr] h := by
    refine r_istore_n (zdk oG_workOut 9 rfl) rfl (Nat.le_of_ble_eq_true rfl) rfl ?_
    refine r_aload_n (zdk oG_workOut 10 rfl) rfl rfl ?_
    refine r_getr (kf := 3) (zdk oG_workOut 11 rfl) rfl rfl (by decide) lF_G_29 rfl ?_
    refine r_aload_n (zdk oG_workOut 12 rfl) rfl rfl ?_
    refine r_geti (kf := 5) (zdk oG_workOut 13 rfl) rfl rfl (by decide) lF_G_38 rfl ?_
    rw [hf]
    refine r_iload_n (zdk oG_workOut 14 rfl) rfl rfl ?_
    refine r_callV2i (M' := mP_expressionFor) (zdk oG_workOut 15 rfl) lM_G_61 vP_expressionFor rfl rfl (Nat.le_of_ble_eq_true rfl) rfl (spP_expressionFor (d + 1) h (nI f) (nI pt - 1)) ?_
    refine r_tp (y := nI e) ?_ ?_
    · rw [k6, ← hE, nI_1, pk_mul, nI_1]
      have : nI (f * (vars + 1) + 1) + (nI pt - 1) = nI (f * (vars + 1)) + nI 1 + (nI pt - nI 1) := by rw [nI_add]; rfl
      rw [this]
      have e3 : nI (f * (vars + 1)) + nI 1 + (nI pt - nI 1) = nI (f * (vars + 1)) + nI pt := by
        rw [Int32.add_assoc, Int32.add_comm (nI 1), Int32.sub_add_cancel]
      rw [e3, nI_add]
    refine r_istore_n (zdk oG_workOut 16 rfl) rfl (Nat.le_of_ble_eq_true rfl) rfl ?_
    refine r_aload_n (zdk oG_workOut 17 rfl) rfl rfl ?_
    refine r_getr (kf := 3) (zdk oG_workOut 18 rfl) rfl rfl (by decide) lF_G_29 rfl ?_
    refine r_getr (kf := 1) (zdk oG_workOut 19 rfl) rfl rfl (by decide) lF_G_65 rfl ?_
    refine r_iload_n (zdk oG_workOut 20 rfl) rfl rfl ?_
    refine r_iald (zdk oG_workOut 21 rfl) rfl (vp_in_nI (n := e) (by omega) (by decide)) ?_
    rw [ee, b1]
    refine r_istore (zdk oG_workOut 22 rfl) (Nat.le_of_ble_eq_true rfl) rfl ?_
    refine r_iconst (v := 0) (zdk oG_workOut 23 rfl) (by decide) ?_
    refine r_istore (zdk oG_workOut 24 rfl) (Nat.le_of_ble_eq_true rfl) rfl ?_
    refine r_aload_n (zdk oG_workOut 25 rfl) rfl rfl ?_
    refine r_getr (kf := 3) (zdk oG_workOut 26 rfl) rfl rfl (by decide) lF_G_29 rfl ?_
    refine r_getr (kf := 1) (zdk oG_workOut 27 rfl) rfl rfl (by decide) lF_G_65 rfl ?_
    refine r_iload_n (zdk oG_workOut 28 rfl) rfl rfl ?_
    refine r_iconst (v := 1) (zdk oG_workOut 29 rfl) (by decide) ?_
    refine r_iadd (zdk oG_workOut 30 rfl) ?_
    refine r_tp (nI_1 e) ?_
    refine r_iald (zdk oG_workOut 31 rfl) rfl (vp_in_nI (n := e + 1) (by omega) (by decide)) ?_
    rw [ee1, b2]
    refine r_iconst (v := 1) (zdk oG_workOut 32 rfl) (by decide) ?_
    refine r_isub (zdk oG_workOut 33 rfl) ?_
    refine r_tp (show nI q - 1 = nI (p + (q - p) - 1) by rw [show (1 : Int32) = nI 1 from rfl, pk_sub (by omega)]; congr 1; omega) ?_
    refine r_istore (zdk oG_workOut 34 rfl) (Nat.le_of_ble_eq_true rfl) rfl ?_
    exact loop (q - p) [] h (Nat.le_refl _) (fun _ _ _ => rfl) rfl trivial (fun v hv => by cases hv) hrx (by simp only [List.length_nil]; omega)
  refine zmet (by decide +kernel) (Nat.le_of_ble_eq_true rfl) ?_
  refine r_iload_n (zdk oG_workOut 0 rfl) rfl rfl ?_
  refine r_iconst (v := -1) (zdk oG_workOut 1 rfl) (by decide) ?_
  refine r_icmp_ne (tgt := 10) (zdk oG_workOut 2 rfl) (by decide) (fun hc => ?_) (fun hc => ?_)
  · have hpt1 : ∃ v, pt = v + 1 := by
      cases pt with
      | zero => exact absurd (by decide) hc
      | succ v => exact ⟨v, rfl⟩
    obtain ⟨v, rfl⟩ := hpt1
    rw [nI_pred]
    refine r_aload_n (zdk oG_workOut 5 rfl) rfl rfl ?_
    refine r_getr (kf := 3) (zdk oG_workOut 6 rfl) rfl rfl (by decide) lF_G_29 rfl ?_
    refine r_iload_n (zdk oG_workOut 7 rfl) rfl rfl ?_
    refine r_callV1i (M' := mP_range) (zdk oG_workOut 8 rfl) lM_G_58 vP_range rfl rfl (Nat.le_of_ble_eq_true rfl) rfl (spP_range (d + 1) h v (by omega)) ?_
    rw [nI_pred] at main2
    rw [if_neg (by omega), show 1 + (v + 1) = 2 + v by omega] at hgr
    rw [hgr]
    exact main2
  · have hpt0 : pt = 0 := by
      cases pt with
      | zero => rfl
      | succ v => rw [nI_pred] at hc; exact absurd hc (nI_nm1 (by omega))
    rw [if_pos hpt0] at hgr
    refine r_bipush (v := 99) (zdk oG_workOut 3 rfl) (by decide) ?_
    refine r_goto (tgt := 18) (zdk oG_workOut 4 rfl) (by decide) ?_
    rw [hgr]
    exact main2
