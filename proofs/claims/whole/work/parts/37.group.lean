/-! a group of processes: RoundLab$Group (at 9, its ears at 10, and at 16, its ears at 17) -/
/-- what the class takes a word without parts for, and one with one part -/
def gc0 (h : zH) (G : Nat) (w : Int32) : Int32 :=
  if w = 31 then h.1 G 7 else if w = 32 then h.1 G 2 else if w = 33 then (if 15 < h.1 G 6 then 15 else h.1 G 6) else if w = 34 then h.1 G 6 - h.1 G 6 / h.1 G 2 * h.1 G 2
  else if w = 35 then h.1 (G + 1) 1 else if w = 36 then h.1 (G + 1) 2 else if w = 37 then h.1 (G + 1) 3 else if w = 38 then h.1 (G + 1) 4 else if w = 39 then h.1 (G + 1) 5
  else if w < 100 then w else h.1 (G + 3) (h.1 G 7 * 5 + (w - 100)).toNatClampNeg
def gc1 (h : zH) (G : Nat) (w a : Int32) : Int32 :=
  if w = 40 then nI (fTm (h.1 (G + 2)) (h.1 (G + 1) 6) a 7) else if w = 41 then (if a.toNatClampNeg < 7 ∧ fB (h.1 (G + 1) 6) a.toNatClampNeg = 1 then h.1 (G + 2) a.toNatClampNeg else 0) else (if a = 0 then 1 else 0)
theorem fGood_nat {a : Int32} (h : fGood a) : ∃ k, k ≤ 99 ∧ a = nI k := by
  refine ⟨a.toInt.toNat, ?_, ?_⟩
  · have := h.2
    omega
  · apply Int32.toInt_inj.mp
    have h1 := h.1
    have h2 := h.2
    rw [nI_toInt (by omega)]
    omega
theorem nI_good {k : Nat} (h : k ≤ 99) : fGood (nI k) := by
  unfold fGood
  rw [nI_toInt (by omega)]
  omega
/-- the words without parts -/
theorem fCan_0 {w : Int32} {vars : Nat} {hears : Bool} (h : fCan w vars hears = true) (h0 : fParts w = 0) (hv : vars ≤ 5) : (∃ k, k ≤ 15 ∧ w = nI k) ∨ (∃ k, 31 ≤ k ∧ k ≤ 39 ∧ w = nI k ∧ (hears = true ∨ k ≤ 34)) ∨ (∃ k, k < vars ∧ w = nI (100 + k)) := by
  have e : ∀ k : Nat, w.toInt = k → k < 1000 → w = nI k := by
    intro k hk hk2
    apply Int32.toInt_inj.mp
    rw [nI_toInt (by omega), hk]
  unfold fParts at h0
  simp only [fCan, Bool.or_eq_true, Bool.and_eq_true, decide_eq_true_eq] at h
  split at h0
  · omega
  · split at h0
    · omega
    · split at h0
      · omega
      · rename_i q1 q2 q3
        rcases h with (h | h) | (h | h)
        · exact Or.inl ⟨w.toInt.toNat, by omega, e _ (by omega) (by omega)⟩
        · refine Or.inr (Or.inr ⟨(w.toInt - 100).toNat, by omega, e _ (by omega) (by omega)⟩)
        · refine Or.inr (Or.inl ⟨w.toInt.toNat, by omega, by omega, e _ (by omega) (by omega), Or.inr (by omega)⟩)
        · refine Or.inr (Or.inl ⟨w.toInt.toNat, by omega, by omega, e _ (by omega) (by omega), Or.inl h.1⟩)
theorem spG_valueOf_9 (d : Nat) (h : zH) (p v : Int32) (hi : vp_in (p * 5 + v) 35) : zSP d 0 0 mG_valueOf [.inr (.inr 9), .inl p, .inl v] h (zI (h.1 12 (p * 5 + v).toNatClampNeg) h) := by
  refine zmet (by decide +kernel) (Nat.le_of_ble_eq_true rfl) ?_
  refine r_aload_n (zdk oG_valueOf 0 rfl) rfl rfl ?_
  refine r_getr (kf := 1) (zdk oG_valueOf 1 rfl) rfl rfl (by decide) lF_G_18 rfl ?_
  refine r_iload_n (zdk oG_valueOf 2 rfl) rfl rfl ?_
  refine r_iconst (v := 5) (zdk oG_valueOf 3 rfl) (by decide) ?_
  refine r_imul (zdk oG_valueOf 4 rfl) ?_
  refine r_iload_n (zdk oG_valueOf 5 rfl) rfl rfl ?_
  refine r_iadd (zdk oG_valueOf 6 rfl) ?_
  refine r_iald (zdk oG_valueOf 7 rfl) rfl (hi) ?_
  refine r_iret (zdk oG_valueOf 8 rfl) rfl ?_
  exact zIi rfl
theorem spG_setValue_9 (d : Nat) (h : zH) (p v x : Int32) (hi : vp_in (p * 5 + v) 35) : zSP d 0 0 mG_setValue [.inr (.inr 9), .inl p, .inl v, .inl x] h (zU (zput h 12 (p * 5 + v).toNatClampNeg x)) := by
  refine zmet (by decide +kernel) (Nat.le_of_ble_eq_true rfl) ?_
  refine r_aload_n (zdk oG_setValue 0 rfl) rfl rfl ?_
  refine r_getr (kf := 1) (zdk oG_setValue 1 rfl) rfl rfl (by decide) lF_G_18 rfl ?_
  refine r_iload_n (zdk oG_setValue 2 rfl) rfl rfl ?_
  refine r_iconst (v := 5) (zdk oG_setValue 3 rfl) (by decide) ?_
  refine r_imul (zdk oG_setValue 4 rfl) ?_
  refine r_iload_n (zdk oG_setValue 5 rfl) rfl rfl ?_
  refine r_iadd (zdk oG_setValue 6 rfl) ?_
  refine r_iload_n (zdk oG_setValue 7 rfl) rfl rfl ?_
  refine r_iast (zdk oG_setValue 8 rfl) rfl (hi) ?_
  refine r_vret (zdk oG_setValue 9 rfl) rfl ?_
  exact zUi rfl
theorem spG_ofNone_9 (d : Nat) (h : zH) (w : Int32) (me vars : Nat) (hears : Bool) (hme : h.1 9 7 = nI me) (hme7 : me < 7) (hp : ¬ h.1 9 2 = 0) (hcan : fCan w vars hears = true) (h0 : fParts w = 0) (hv : vars ≤ 5) : zSP (d + 1) 0 0 mG_ofNone [.inr (.inr 9), .inl w] h (zI (gc0 h 9 w) h) := by
  have hb : ¬ w < 100 → vp_in (h.1 9 7 * 5 + (w - 100)) 35 := by
    intro hw
    rcases fCan_0 hcan h0 hv with ⟨k, k1, rfl⟩ | ⟨k, k1, k2, rfl, -⟩ | ⟨k, k1, rfl⟩
    · exact absurd (nI_lt (a := k) (b := 100) (by omega) (by decide)) hw
    · exact absurd (nI_lt (a := k) (b := 100) (by omega) (by decide)) hw
    · rw [hme, show nI (100 + k) - 100 = nI k by rw [show (100 : Int32) = nI 100 from rfl, pk_sub (by omega)]; congr 1; omega, show (5 : Int32) = nI 5 from rfl, pk_mul, nI_add]
      exact vp_in_nI (by omega) (by decide)
  refine zmet (by decide +kernel) (Nat.le_of_ble_eq_true rfl) ?_
  refine r_iload_n (zdk oG_ofNone 0 rfl) rfl rfl ?_
  refine r_nm (fun sx0 ex0 => ?_)
  by_cases hs0_0 : sx0 = 31
  · refine r_tabIn (off := 51) (tgt := 52) (zdk oG_ofNone 1 rfl) (by rw [hs0_0]; decide) (by rw [hs0_0]; decide) (by rw [hs0_0]; rfl) (by decide) ?_
    refine r_aload_n (zdk oG_ofNone 2 rfl) rfl rfl ?_
    refine r_geti (kf := 7) (zdk oG_ofNone 3 rfl) rfl rfl (by decide) lF_G_44 rfl ?_
    refine r_iret (zdk oG_ofNone 4 rfl) rfl ?_
    subst ex0
    refine zIi ?_
    simp_all [gc0] <;> (try (intro q9; exact absurd q9 (Int32.not_lt.mpr hc1)))
  by_cases hs0_1 : sx0 = 32
  · refine r_tabIn (off := 56) (tgt := 57) (zdk oG_ofNone 1 rfl) (by rw [hs0_1]; decide) (by rw [hs0_1]; decide) (by rw [hs0_1]; rfl) (by decide) ?_
    refine r_aload_n (zdk oG_ofNone 5 rfl) rfl rfl ?_
    refine r_geti (kf := 2) (zdk oG_ofNone 6 rfl) rfl rfl (by decide) lF_G_22 rfl ?_
    refine r_iret (zdk oG_ofNone 7 rfl) rfl ?_
    subst ex0
    refine zIi ?_
    simp_all [gc0] <;> (try (intro q9; exact absurd q9 (Int32.not_lt.mpr hc1)))
  by_cases hs0_2 : sx0 = 33
  · refine r_tabIn (off := 61) (tgt := 62) (zdk oG_ofNone 1 rfl) (by rw [hs0_2]; decide) (by rw [hs0_2]; decide) (by rw [hs0_2]; rfl) (by decide) ?_
    refine r_aload_n (zdk oG_ofNone 8 rfl) rfl rfl ?_
    refine r_geti (kf := 6) (zdk oG_ofNone 9 rfl) rfl rfl (by decide) lF_G_41 rfl ?_
    refine r_bipush (v := 15) (zdk oG_ofNone 10 rfl) (by decide) ?_
    refine r_mmin (zdk oG_ofNone 11 rfl) lM_G_86 lX_minS lX_math lX_minC (Nat.le_of_ble_eq_true rfl) rfl ?_
    refine r_iret (zdk oG_ofNone 12 rfl) rfl ?_
    subst ex0
    refine zIi ?_
    simp_all [gc0] <;> (try (intro q9; exact absurd q9 (Int32.not_lt.mpr hc1)))
  by_cases hs0_3 : sx0 = 34
  · refine r_tabIn (off := 71) (tgt := 72) (zdk oG_ofNone 1 rfl) (by rw [hs0_3]; decide) (by rw [hs0_3]; decide) (by rw [hs0_3]; rfl) (by decide) ?_
    refine r_aload_n (zdk oG_ofNone 13 rfl) rfl rfl ?_
    refine r_geti (kf := 6) (zdk oG_ofNone 14 rfl) rfl rfl (by decide) lF_G_41 rfl ?_
    refine r_aload_n (zdk oG_ofNone 15 rfl) rfl rfl ?_
    refine r_geti (kf := 2) (zdk oG_ofNone 16 rfl) rfl rfl (by decide) lF_G_22 rfl ?_
    refine r_irem (zdk oG_ofNone 17 rfl) (hp) ?_
    refine r_iret (zdk oG_ofNone 18 rfl) rfl ?_
    subst ex0
    refine zIi ?_
    simp_all [gc0] <;> (try (intro q9; exact absurd q9 (Int32.not_lt.mpr hc1)))
  by_cases hs0_4 : sx0 = 35
  · refine r_tabIn (off := 81) (tgt := 82) (zdk oG_ofNone 1 rfl) (by rw [hs0_4]; decide) (by rw [hs0_4]; decide) (by rw [hs0_4]; rfl) (by decide) ?_
    refine r_aload_n (zdk oG_ofNone 19 rfl) rfl rfl ?_
    refine r_getr (kf := 0) (zdk oG_ofNone 20 rfl) rfl rfl (by decide) lF_G_12 rfl ?_
    refine r_geti (kf := 1) (zdk oG_ofNone 21 rfl) rfl rfl (by decide) lF_G_91 rfl ?_
    refine r_iret (zdk oG_ofNone 22 rfl) rfl ?_
    subst ex0
    refine zIi ?_
    simp_all [gc0] <;> (try (intro q9; exact absurd q9 (Int32.not_lt.mpr hc1)))
  by_cases hs0_5 : sx0 = 36
  · refine r_tabIn (off := 89) (tgt := 90) (zdk oG_ofNone 1 rfl) (by rw [hs0_5]; decide) (by rw [hs0_5]; decide) (by rw [hs0_5]; rfl) (by decide) ?_
    refine r_aload_n (zdk oG_ofNone 23 rfl) rfl rfl ?_
    refine r_getr (kf := 0) (zdk oG_ofNone 24 rfl) rfl rfl (by decide) lF_G_12 rfl ?_
    refine r_geti (kf := 2) (zdk oG_ofNone 25 rfl) rfl rfl (by decide) lF_G_94 rfl ?_
    refine r_iret (zdk oG_ofNone 26 rfl) rfl ?_
    subst ex0
    refine zIi ?_
    simp_all [gc0] <;> (try (intro q9; exact absurd q9 (Int32.not_lt.mpr hc1)))
  by_cases hs0_6 : sx0 = 37
  · refine r_tabIn (off := 97) (tgt := 98) (zdk oG_ofNone 1 rfl) (by rw [hs0_6]; decide) (by rw [hs0_6]; decide) (by rw [hs0_6]; rfl) (by decide) ?_
    refine r_aload_n (zdk oG_ofNone 27 rfl) rfl rfl ?_
    refine r_getr (kf := 0) (zdk oG_ofNone 28 rfl) rfl rfl (by decide) lF_G_12 rfl ?_
    refine r_geti (kf := 3) (zdk oG_ofNone 29 rfl) rfl rfl (by decide) lF_G_97 rfl ?_
    refine r_iret (zdk oG_ofNone 30 rfl) rfl ?_
    subst ex0
    refine zIi ?_
    simp_all [gc0] <;> (try (intro q9; exact absurd q9 (Int32.not_lt.mpr hc1)))
  by_cases hs0_7 : sx0 = 38
  · refine r_tabIn (off := 105) (tgt := 106) (zdk oG_ofNone 1 rfl) (by rw [hs0_7]; decide) (by rw [hs0_7]; decide) (by rw [hs0_7]; rfl) (by decide) ?_
    refine r_aload_n (zdk oG_ofNone 31 rfl) rfl rfl ?_
    refine r_getr (kf := 0) (zdk oG_ofNone 32 rfl) rfl rfl (by decide) lF_G_12 rfl ?_
    refine r_geti (kf := 4) (zdk oG_ofNone 33 rfl) rfl rfl (by decide) lF_G_100 rfl ?_
    refine r_iret (zdk oG_ofNone 34 rfl) rfl ?_
    subst ex0
    refine zIi ?_
    simp_all [gc0] <;> (try (intro q9; exact absurd q9 (Int32.not_lt.mpr hc1)))
  by_cases hs0_8 : sx0 = 39
  · refine r_tabIn (off := 113) (tgt := 114) (zdk oG_ofNone 1 rfl) (by rw [hs0_8]; decide) (by rw [hs0_8]; decide) (by rw [hs0_8]; rfl) (by decide) ?_
    refine r_aload_n (zdk oG_ofNone 35 rfl) rfl rfl ?_
    refine r_getr (kf := 0) (zdk oG_ofNone 36 rfl) rfl rfl (by decide) lF_G_12 rfl ?_
    refine r_geti (kf := 5) (zdk oG_ofNone 37 rfl) rfl rfl (by decide) lF_G_103 rfl ?_
    refine r_iret (zdk oG_ofNone 38 rfl) rfl ?_
    subst ex0
    refine zIi ?_
    simp_all [gc0] <;> (try (intro q9; exact absurd q9 (Int32.not_lt.mpr hc1)))
  refine r_tabOut (tgt := 122) (zdk oG_ofNone 1 rfl) (by simp only [← Int32.toInt_inj, Int32.reduceToInt] at hs0_0 hs0_1 hs0_2 hs0_3 hs0_4 hs0_5 hs0_6 hs0_7 hs0_8; omega) (by decide) ?_
  refine r_iload_n (zdk oG_ofNone 39 rfl) rfl rfl ?_
  refine r_bipush (v := 100) (zdk oG_ofNone 40 rfl) (by decide) ?_
  refine r_icmp_lt (tgt := 143) (zdk oG_ofNone 41 rfl) (by decide) (fun hc1 => ?_) (fun hc1 => ?_)
  · refine r_iload_n (zdk oG_ofNone 50 rfl) rfl rfl ?_
    refine r_iret (zdk oG_ofNone 51 rfl) rfl ?_
    subst ex0
    refine zIi ?_
    simp_all [gc0] <;> (try (intro q9; exact absurd q9 (Int32.not_lt.mpr hc1)))
  · refine r_aload_n (zdk oG_ofNone 42 rfl) rfl rfl ?_
    refine r_aload_n (zdk oG_ofNone 43 rfl) rfl rfl ?_
    refine r_geti (kf := 7) (zdk oG_ofNone 44 rfl) rfl rfl (by decide) lF_G_44 rfl ?_
    refine r_iload_n (zdk oG_ofNone 45 rfl) rfl rfl ?_
    refine r_bipush (v := 100) (zdk oG_ofNone 46 rfl) (by decide) ?_
    refine r_isub (zdk oG_ofNone 47 rfl) ?_
    refine r_callV2i (M' := mG_valueOf) (zdk oG_ofNone 48 rfl) lM_G_106 vG_valueOf rfl rfl (Nat.le_of_ble_eq_true rfl) rfl (spG_valueOf_9 d h (h.1 9 7) (w - 100) (hb (by subst ex0; assumption))) ?_
    refine r_goto (tgt := 144) (zdk oG_ofNone 49 rfl) (by decide) ?_
    refine r_iret (zdk oG_ofNone 51 rfl) rfl ?_
    subst ex0
    refine zIi ?_
    simp_all [gc0] <;> (try (intro q9; exact absurd q9 (Int32.not_lt.mpr hc1)))
theorem spG_ofOne_9 (d : Nat) (h : zH) (w a : Int32) (ha : fGood a) : zSP (d + 1) 0 0 mG_ofOne [.inr (.inr 9), .inl w, .inl a] h (zI (gc1 h 9 w a) h) := by
  obtain ⟨k, k1, rfl⟩ := fGood_nat ha
  have ek : (nI k).toNatClampNeg = k := nI_clamp (by omega)
  refine zmet (by decide +kernel) (Nat.le_of_ble_eq_true rfl) ?_
  refine r_iload_n (zdk oG_ofOne 0 rfl) rfl rfl ?_
  refine r_nm (fun sx0 ex0 => ?_)
  by_cases hs0_0 : sx0 = 40
  · refine r_lookup (off := 27) (tgt := 28) (zdk oG_ofOne 1 rfl) (by decide) (by rw [hs0_0]; decide) (by decide) ?_
    refine r_aload_n (zdk oG_ofOne 2 rfl) rfl rfl ?_
    refine r_getr (kf := 0) (zdk oG_ofOne 3 rfl) rfl rfl (by decide) lF_G_12 rfl ?_
    refine r_iload_n (zdk oG_ofOne 4 rfl) rfl rfl ?_
    refine r_callV1i (M' := mE_howOften) (zdk oG_ofOne 5 rfl) lM_G_109 vE_howOften rfl rfl (Nat.le_of_ble_eq_true rfl) rfl (spE_howOften_10 d h (nI k)) ?_
    refine r_iret (zdk oG_ofOne 6 rfl) rfl ?_
    subst ex0
    refine zIi ?_
    simp_all [gc1]
  by_cases hs0_1 : sx0 = 41
  · refine r_lookup (off := 36) (tgt := 37) (zdk oG_ofOne 1 rfl) (by decide) (by rw [hs0_1]; decide) (by decide) ?_
    refine r_aload_n (zdk oG_ofOne 7 rfl) rfl rfl ?_
    refine r_getr (kf := 0) (zdk oG_ofOne 8 rfl) rfl rfl (by decide) lF_G_12 rfl ?_
    refine r_iload_n (zdk oG_ofOne 9 rfl) rfl rfl ?_
    refine r_callV1i (M' := mE_from) (zdk oG_ofOne 10 rfl) lM_G_112 vE_from rfl rfl (Nat.le_of_ble_eq_true rfl) rfl (spE_from_10 d h k (by omega)) ?_
    refine r_iret (zdk oG_ofOne 11 rfl) rfl ?_
    subst ex0
    refine zIi ?_
    simp_all [gc1]
  refine r_lookup (off := 45) (tgt := 46) (zdk oG_ofOne 1 rfl) (by decide) (by show Op.lookupswitch.offset [(40, 27), (41, 36)] 45 sx0.toInt = _; rw [lv_osw (a := 40) hs0_0 (by decide), lv_osw (a := 41) hs0_1 (by decide)]; rfl) (by decide) ?_
  refine r_iload_n (zdk oG_ofOne 12 rfl) rfl rfl ?_
  refine r_if_ne (tgt := 54) (zdk oG_ofOne 13 rfl) (by decide) (fun hc1 => ?_) (fun hc1 => ?_)
  · refine r_iconst (v := 0) (zdk oG_ofOne 16 rfl) (by decide) ?_
    refine r_iret (zdk oG_ofOne 17 rfl) rfl ?_
    subst ex0
    refine zIi ?_
    simp_all [gc1]
  · refine r_iconst (v := 1) (zdk oG_ofOne 14 rfl) (by decide) ?_
    refine r_goto (tgt := 55) (zdk oG_ofOne 15 rfl) (by decide) ?_
    refine r_iret (zdk oG_ofOne 17 rfl) rfl ?_
    subst ex0
    refine zIi ?_
    simp_all [gc1]
theorem spG_valueOf_16 (d : Nat) (h : zH) (p v : Int32) (hi : vp_in (p * 5 + v) 35) : zSP d 0 0 mG_valueOf [.inr (.inr 16), .inl p, .inl v] h (zI (h.1 19 (p * 5 + v).toNatClampNeg) h) := by
  refine zmet (by decide +kernel) (Nat.le_of_ble_eq_true rfl) ?_
  refine r_aload_n (zdk oG_valueOf 0 rfl) rfl rfl ?_
  refine r_getr (kf := 1) (zdk oG_valueOf 1 rfl) rfl rfl (by decide) lF_G_18 rfl ?_
  refine r_iload_n (zdk oG_valueOf 2 rfl) rfl rfl ?_
  refine r_iconst (v := 5) (zdk oG_valueOf 3 rfl) (by decide) ?_
  refine r_imul (zdk oG_valueOf 4 rfl) ?_
  refine r_iload_n (zdk oG_valueOf 5 rfl) rfl rfl ?_
  refine r_iadd (zdk oG_valueOf 6 rfl) ?_
  refine r_iald (zdk oG_valueOf 7 rfl) rfl (hi) ?_
  refine r_iret (zdk oG_valueOf 8 rfl) rfl ?_
  exact zIi rfl
theorem spG_setValue_16 (d : Nat) (h : zH) (p v x : Int32) (hi : vp_in (p * 5 + v) 35) : zSP d 0 0 mG_setValue [.inr (.inr 16), .inl p, .inl v, .inl x] h (zU (zput h 19 (p * 5 + v).toNatClampNeg x)) := by
  refine zmet (by decide +kernel) (Nat.le_of_ble_eq_true rfl) ?_
  refine r_aload_n (zdk oG_setValue 0 rfl) rfl rfl ?_
  refine r_getr (kf := 1) (zdk oG_setValue 1 rfl) rfl rfl (by decide) lF_G_18 rfl ?_
  refine r_iload_n (zdk oG_setValue 2 rfl) rfl rfl ?_
  refine r_iconst (v := 5) (zdk oG_setValue 3 rfl) (by decide) ?_
  refine r_imul (zdk oG_setValue 4 rfl) ?_
  refine r_iload_n (zdk oG_setValue 5 rfl) rfl rfl ?_
  refine r_iadd (zdk oG_setValue 6 rfl) ?_
  refine r_iload_n (zdk oG_setValue 7 rfl) rfl rfl ?_
  refine r_iast (zdk oG_setValue 8 rfl) rfl (hi) ?_
  refine r_vret (zdk oG_setValue 9 rfl) rfl ?_
  exact zUi rfl
theorem spG_ofNone_16 (d : Nat) (h : zH) (w : Int32) (me vars : Nat) (hears : Bool) (hme : h.1 16 7 = nI me) (hme7 : me < 7) (hp : ¬ h.1 16 2 = 0) (hcan : fCan w vars hears = true) (h0 : fParts w = 0) (hv : vars ≤ 5) : zSP (d + 1) 0 0 mG_ofNone [.inr (.inr 16), .inl w] h (zI (gc0 h 16 w) h) := by
  have hb : ¬ w < 100 → vp_in (h.1 16 7 * 5 + (w - 100)) 35 := by
    intro hw
    rcases fCan_0 hcan h0 hv with ⟨k, k1, rfl⟩ | ⟨k, k1, k2, rfl, -⟩ | ⟨k, k1, rfl⟩
    · exact absurd (nI_lt (a := k) (b := 100) (by omega) (by decide)) hw
    · exact absurd (nI_lt (a := k) (b := 100) (by omega) (by decide)) hw
    · rw [hme, show nI (100 + k) - 100 = nI k by rw [show (100 : Int32) = nI 100 from rfl, pk_sub (by omega)]; congr 1; omega, show (5 : Int32) = nI 5 from rfl, pk_mul, nI_add]
      exact vp_in_nI (by omega) (by decide)
  refine zmet (by decide +kernel) (Nat.le_of_ble_eq_true rfl) ?_
  refine r_iload_n (zdk oG_ofNone 0 rfl) rfl rfl ?_
  refine r_nm (fun sx0 ex0 => ?_)
  by_cases hs0_0 : sx0 = 31
  · refine r_tabIn (off := 51) (tgt := 52) (zdk oG_ofNone 1 rfl) (by rw [hs0_0]; decide) (by rw [hs0_0]; decide) (by rw [hs0_0]; rfl) (by decide) ?_
    refine r_aload_n (zdk oG_ofNone 2 rfl) rfl rfl ?_
    refine r_geti (kf := 7) (zdk oG_ofNone 3 rfl) rfl rfl (by decide) lF_G_44 rfl ?_
    refine r_iret (zdk oG_ofNone 4 rfl) rfl ?_
    subst ex0
    refine zIi ?_
    simp_all [gc0] <;> (try (intro q9; exact absurd q9 (Int32.not_lt.mpr hc1)))
  by_cases hs0_1 : sx0 = 32
  · refine r_tabIn (off := 56) (tgt := 57) (zdk oG_ofNone 1 rfl) (by rw [hs0_1]; decide) (by rw [hs0_1]; decide) (by rw [hs0_1]; rfl) (by decide) ?_
    refine r_aload_n (zdk oG_ofNone 5 rfl) rfl rfl ?_
    refine r_geti (kf := 2) (zdk oG_ofNone 6 rfl) rfl rfl (by decide) lF_G_22 rfl ?_
    refine r_iret (zdk oG_ofNone 7 rfl) rfl ?_
    subst ex0
    refine zIi ?_
    simp_all [gc0] <;> (try (intro q9; exact absurd q9 (Int32.not_lt.mpr hc1)))
  by_cases hs0_2 : sx0 = 33
  · refine r_tabIn (off := 61) (tgt := 62) (zdk oG_ofNone 1 rfl) (by rw [hs0_2]; decide) (by rw [hs0_2]; decide) (by rw [hs0_2]; rfl) (by decide) ?_
    refine r_aload_n (zdk oG_ofNone 8 rfl) rfl rfl ?_
    refine r_geti (kf := 6) (zdk oG_ofNone 9 rfl) rfl rfl (by decide) lF_G_41 rfl ?_
    refine r_bipush (v := 15) (zdk oG_ofNone 10 rfl) (by decide) ?_
    refine r_mmin (zdk oG_ofNone 11 rfl) lM_G_86 lX_minS lX_math lX_minC (Nat.le_of_ble_eq_true rfl) rfl ?_
    refine r_iret (zdk oG_ofNone 12 rfl) rfl ?_
    subst ex0
    refine zIi ?_
    simp_all [gc0] <;> (try (intro q9; exact absurd q9 (Int32.not_lt.mpr hc1)))
  by_cases hs0_3 : sx0 = 34
  · refine r_tabIn (off := 71) (tgt := 72) (zdk oG_ofNone 1 rfl) (by rw [hs0_3]; decide) (by rw [hs0_3]; decide) (by rw [hs0_3]; rfl) (by decide) ?_
    refine r_aload_n (zdk oG_ofNone 13 rfl) rfl rfl ?_
    refine r_geti (kf := 6) (zdk oG_ofNone 14 rfl) rfl rfl (by decide) lF_G_41 rfl ?_
    refine r_aload_n (zdk oG_ofNone 15 rfl) rfl rfl ?_
    refine r_geti (kf := 2) (zdk oG_ofNone 16 rfl) rfl rfl (by decide) lF_G_22 rfl ?_
    refine r_irem (zdk oG_ofNone 17 rfl) (hp) ?_
    refine r_iret (zdk oG_ofNone 18 rfl) rfl ?_
    subst ex0
    refine zIi ?_
    simp_all [gc0] <;> (try (intro q9; exact absurd q9 (Int32.not_lt.mpr hc1)))
  by_cases hs0_4 : sx0 = 35
  · refine r_tabIn (off := 81) (tgt := 82) (zdk oG_ofNone 1 rfl) (by rw [hs0_4]; decide) (by rw [hs0_4]; decide) (by rw [hs0_4]; rfl) (by decide) ?_
    refine r_aload_n (zdk oG_ofNone 19 rfl) rfl rfl ?_
    refine r_getr (kf := 0) (zdk oG_ofNone 20 rfl) rfl rfl (by decide) lF_G_12 rfl ?_
    refine r_geti (kf := 1) (zdk oG_ofNone 21 rfl) rfl rfl (by decide) lF_G_91 rfl ?_
    refine r_iret (zdk oG_ofNone 22 rfl) rfl ?_
    subst ex0
    refine zIi ?_
    simp_all [gc0] <;> (try (intro q9; exact absurd q9 (Int32.not_lt.mpr hc1)))
  by_cases hs0_5 : sx0 = 36
  · refine r_tabIn (off := 89) (tgt := 90) (zdk oG_ofNone 1 rfl) (by rw [hs0_5]; decide) (by rw [hs0_5]; decide) (by rw [hs0_5]; rfl) (by decide) ?_
    refine r_aload_n (zdk oG_ofNone 23 rfl) rfl rfl ?_
    refine r_getr (kf := 0) (zdk oG_ofNone 24 rfl) rfl rfl (by decide) lF_G_12 rfl ?_
    refine r_geti (kf := 2) (zdk oG_ofNone 25 rfl) rfl rfl (by decide) lF_G_94 rfl ?_
    refine r_iret (zdk oG_ofNone 26 rfl) rfl ?_
    subst ex0
    refine zIi ?_
    simp_all [gc0] <;> (try (intro q9; exact absurd q9 (Int32.not_lt.mpr hc1)))
  by_cases hs0_6 : sx0 = 37
  · refine r_tabIn (off := 97) (tgt := 98) (zdk oG_ofNone 1 rfl) (by rw [hs0_6]; decide) (by rw [hs0_6]; decide) (by rw [hs0_6]; rfl) (by decide) ?_
    refine r_aload_n (zdk oG_ofNone 27 rfl) rfl rfl ?_
    refine r_getr (kf := 0) (zdk oG_ofNone 28 rfl) rfl rfl (by decide) lF_G_12 rfl ?_
    refine r_geti (kf := 3) (zdk oG_ofNone 29 rfl) rfl rfl (by decide) lF_G_97 rfl ?_
    refine r_iret (zdk oG_ofNone 30 rfl) rfl ?_
    subst ex0
    refine zIi ?_
    simp_all [gc0] <;> (try (intro q9; exact absurd q9 (Int32.not_lt.mpr hc1)))
  by_cases hs0_7 : sx0 = 38
  · refine r_tabIn (off := 105) (tgt := 106) (zdk oG_ofNone 1 rfl) (by rw [hs0_7]; decide) (by rw [hs0_7]; decide) (by rw [hs0_7]; rfl) (by decide) ?_
    refine r_aload_n (zdk oG_ofNone 31 rfl) rfl rfl ?_
    refine r_getr (kf := 0) (zdk oG_ofNone 32 rfl) rfl rfl (by decide) lF_G_12 rfl ?_
    refine r_geti (kf := 4) (zdk oG_ofNone 33 rfl) rfl rfl (by decide) lF_G_100 rfl ?_
    refine r_iret (zdk oG_ofNone 34 rfl) rfl ?_
    subst ex0
    refine zIi ?_
    simp_all [gc0] <;> (try (intro q9; exact absurd q9 (Int32.not_lt.mpr hc1)))
  by_cases hs0_8 : sx0 = 39
  · refine r_tabIn (off := 113) (tgt := 114) (zdk oG_ofNone 1 rfl) (by rw [hs0_8]; decide) (by rw [hs0_8]; decide) (by rw [hs0_8]; rfl) (by decide) ?_
    refine r_aload_n (zdk oG_ofNone 35 rfl) rfl rfl ?_
    refine r_getr (kf := 0) (zdk oG_ofNone 36 rfl) rfl rfl (by decide) lF_G_12 rfl ?_
    refine r_geti (kf := 5) (zdk oG_ofNone 37 rfl) rfl rfl (by decide) lF_G_103 rfl ?_
    refine r_iret (zdk oG_ofNone 38 rfl) rfl ?_
    subst ex0
    refine zIi ?_
    simp_all [gc0] <;> (try (intro q9; exact absurd q9 (Int32.not_lt.mpr hc1)))
  refine r_tabOut (tgt := 122) (zdk oG_ofNone 1 rfl) (by simp only [← Int32.toInt_inj, Int32.reduceToInt] at hs0_0 hs0_1 hs0_2 hs0_3 hs0_4 hs0_5 hs0_6 hs0_7 hs0_8; omega) (by decide) ?_
  refine r_iload_n (zdk oG_ofNone 39 rfl) rfl rfl ?_
  refine r_bipush (v := 100) (zdk oG_ofNone 40 rfl) (by decide) ?_
  refine r_icmp_lt (tgt := 143) (zdk oG_ofNone 41 rfl) (by decide) (fun hc1 => ?_) (fun hc1 => ?_)
  · refine r_iload_n (zdk oG_ofNone 50 rfl) rfl rfl ?_
    refine r_iret (zdk oG_ofNone 51 rfl) rfl ?_
    subst ex0
    refine zIi ?_
    simp_all [gc0] <;> (try (intro q9; exact absurd q9 (Int32.not_lt.mpr hc1)))
  · refine r_aload_n (zdk oG_ofNone 42 rfl) rfl rfl ?_
    refine r_aload_n (zdk oG_ofNone 43 rfl) rfl rfl ?_
    refine r_geti (kf := 7) (zdk oG_ofNone 44 rfl) rfl rfl (by decide) lF_G_44 rfl ?_
    refine r_iload_n (zdk oG_ofNone 45 rfl) rfl rfl ?_
    refine r_bipush (v := 100) (zdk oG_ofNone 46 rfl) (by decide) ?_
    refine r_isub (zdk oG_ofNone 47 rfl) ?_
    refine r_callV2i (M' := mG_valueOf) (zdk oG_ofNone 48 rfl) lM_G_106 vG_valueOf rfl rfl (Nat.le_of_ble_eq_true rfl) rfl (spG_valueOf_16 d h (h.1 16 7) (w - 100) (hb (by subst ex0; assumption))) ?_
    refine r_goto (tgt := 144) (zdk oG_ofNone 49 rfl) (by decide) ?_
    refine r_iret (zdk oG_ofNone 51 rfl) rfl ?_
    subst ex0
    refine zIi ?_
    simp_all [gc0] <;> (try (intro q9; exact absurd q9 (Int32.not_lt.mpr hc1)))
theorem spG_ofOne_16 (d : Nat) (h : zH) (w a : Int32) (ha : fGood a) : zSP (d + 1) 0 0 mG_ofOne [.inr (.inr 16), .inl w, .inl a] h (zI (gc1 h 16 w a) h) := by
  obtain ⟨k, k1, rfl⟩ := fGood_nat ha
  have ek : (nI k).toNatClampNeg = k := nI_clamp (by omega)
  refine zmet (by decide +kernel) (Nat.le_of_ble_eq_true rfl) ?_
  refine r_iload_n (zdk oG_ofOne 0 rfl) rfl rfl ?_
  refine r_nm (fun sx0 ex0 => ?_)
  by_cases hs0_0 : sx0 = 40
  · refine r_lookup (off := 27) (tgt := 28) (zdk oG_ofOne 1 rfl) (by decide) (by rw [hs0_0]; decide) (by decide) ?_
    refine r_aload_n (zdk oG_ofOne 2 rfl) rfl rfl ?_
    refine r_getr (kf := 0) (zdk oG_ofOne 3 rfl) rfl rfl (by decide) lF_G_12 rfl ?_
    refine r_iload_n (zdk oG_ofOne 4 rfl) rfl rfl ?_
    refine r_callV1i (M' := mE_howOften) (zdk oG_ofOne 5 rfl) lM_G_109 vE_howOften rfl rfl (Nat.le_of_ble_eq_true rfl) rfl (spE_howOften_17 d h (nI k)) ?_
    refine r_iret (zdk oG_ofOne 6 rfl) rfl ?_
    subst ex0
    refine zIi ?_
    simp_all [gc1]
  by_cases hs0_1 : sx0 = 41
  · refine r_lookup (off := 36) (tgt := 37) (zdk oG_ofOne 1 rfl) (by decide) (by rw [hs0_1]; decide) (by decide) ?_
    refine r_aload_n (zdk oG_ofOne 7 rfl) rfl rfl ?_
    refine r_getr (kf := 0) (zdk oG_ofOne 8 rfl) rfl rfl (by decide) lF_G_12 rfl ?_
    refine r_iload_n (zdk oG_ofOne 9 rfl) rfl rfl ?_
    refine r_callV1i (M' := mE_from) (zdk oG_ofOne 10 rfl) lM_G_112 vE_from rfl rfl (Nat.le_of_ble_eq_true rfl) rfl (spE_from_17 d h k (by omega)) ?_
    refine r_iret (zdk oG_ofOne 11 rfl) rfl ?_
    subst ex0
    refine zIi ?_
    simp_all [gc1]
  refine r_lookup (off := 45) (tgt := 46) (zdk oG_ofOne 1 rfl) (by decide) (by show Op.lookupswitch.offset [(40, 27), (41, 36)] 45 sx0.toInt = _; rw [lv_osw (a := 40) hs0_0 (by decide), lv_osw (a := 41) hs0_1 (by decide)]; rfl) (by decide) ?_
  refine r_iload_n (zdk oG_ofOne 12 rfl) rfl rfl ?_
  refine r_if_ne (tgt := 54) (zdk oG_ofOne 13 rfl) (by decide) (fun hc1 => ?_) (fun hc1 => ?_)
  · refine r_iconst (v := 0) (zdk oG_ofOne 16 rfl) (by decide) ?_
    refine r_iret (zdk oG_ofOne 17 rfl) rfl ?_
    subst ex0
    refine zIi ?_
    simp_all [gc1]
  · refine r_iconst (v := 1) (zdk oG_ofOne 14 rfl) (by decide) ?_
    refine r_goto (tgt := 55) (zdk oG_ofOne 15 rfl) (by decide) ?_
    refine r_iret (zdk oG_ofOne 17 rfl) rfl ?_
    subst ex0
    refine zIi ?_
    simp_all [gc1]
