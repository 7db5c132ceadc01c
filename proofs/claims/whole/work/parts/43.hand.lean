theorem zall {np : Nat} (h : np ≤ 7) : ((1 : Int32) <<< (nI np &&& 31)) - 1 = nI (2 ^ np - 1) := by
  have key : ∀ k : Fin 8, ((1 : Int32) <<< (nI k.val &&& 31)) - 1 = nI (2 ^ k.val - 1) := by decide +kernel
  exact key ⟨np, by omega⟩
theorem pow7 {np : Nat} (h : np ≤ 7) : 2 ^ np ≤ 128 ∧ 1 ≤ 2 ^ np := ⟨Nat.le_trans (Nat.pow_le_pow_right (by decide) h) (by decide), Nat.one_le_two_pow⟩
theorem spR_processes (d : Nat) (h : zH) : zSP d 0 0 mR_processes [.inr (.inr 6)] h (zI (h.1 9 2) h) := by
  refine zmet (by decide +kernel) (Nat.le_of_ble_eq_true rfl) ?_
  refine r_aload_n (zdk oR_processes 0 rfl) rfl rfl ?_
  refine r_getr (kf := 0) (zdk oR_processes 1 rfl) rfl rfl (by decide) lF_R_31 rfl ?_
  refine r_geti (kf := 2) (zdk oR_processes 2 rfl) rfl rfl (by decide) lF_R_35 rfl ?_
  refine r_iret (zdk oR_processes 3 rfl) rfl ?_
  exact zIi rfl
theorem spR_all (d : Nat) (h : zH) (np : Nat) (hp : h.1 9 2 = nI np) (h7 : np ≤ 7) : zSP d 0 0 mR_all [.inr (.inr 6)] h (zI (nI (2 ^ np - 1)) h) := by
  refine zmet (by decide +kernel) (Nat.le_of_ble_eq_true rfl) ?_
  refine r_iconst (v := 1) (zdk oR_all 0 rfl) (by decide) ?_
  refine r_aload_n (zdk oR_all 1 rfl) rfl rfl ?_
  refine r_getr (kf := 0) (zdk oR_all 2 rfl) rfl rfl (by decide) lF_R_31 rfl ?_
  refine r_geti (kf := 2) (zdk oR_all 3 rfl) rfl rfl (by decide) lF_R_35 rfl ?_
  rw [hp]
  refine r_ishl (zdk oR_all 4 rfl) ?_
  refine r_iconst (v := 1) (zdk oR_all 5 rfl) (by decide) ?_
  refine r_isub (zdk oR_all 6 rfl) ?_
  refine r_iret (zdk oR_all 7 rfl) rfl ?_
  exact zIi (zall h7)
theorem spR_end (d : Nat) (h : zH) : zSP d 0 0 mR_end [.inr (.inr 6)] h (zU (zput (zput h 9 2 0) 6 2 0)) := by
  refine zmet (by decide +kernel) (Nat.le_of_ble_eq_true rfl) ?_
  refine r_aload_n (zdk oR_end 0 rfl) rfl rfl ?_
  refine r_getr (kf := 0) (zdk oR_end 1 rfl) rfl rfl (by decide) lF_R_31 rfl ?_
  refine r_iconst (v := 0) (zdk oR_end 2 rfl) (by decide) ?_
  refine r_puti (kf := 2) (zdk oR_end 3 rfl) rfl rfl (by decide) lF_R_35 rfl rfl (by decide +kernel) (Or.inl rfl) ?_
  refine r_aload_n (zdk oR_end 4 rfl) rfl rfl ?_
  refine r_iconst (v := 0) (zdk oR_end 5 rfl) (by decide) ?_
  refine r_puti (kf := 2) (zdk oR_end 6 rfl) rfl rfl (by decide) lF_R_15 rfl rfl (by decide +kernel) (Or.inl rfl) ?_
  refine r_vret (zdk oR_end 7 rfl) rfl ?_
  exact zUi rfl
/-- a run begins -/
def zBeg (h : zH) (np : Nat) (h' : zH) : Prop := h'.1 9 2 = nI np ∧ h'.1 6 2 = 0 ∧ (∀ j, j < 7 → h'.1 7 j = nI (2 ^ np - 1)) ∧ (∀ p v, p < np → v < 5 → h'.1 12 (5 * p + v) = if v = 1 then (if h.1 2 3 < h.1 5 p then h.1 2 3 else h.1 5 p) else 0) ∧ (∀ a j, ¬ (a = 6 ∧ j = 2) → a ≠ 7 → ¬ (a = 9 ∧ j = 2) → a ≠ 12 → h'.1 a j = h.1 a j) ∧ h'.2 = h.2
theorem spR_begin (d : Nat) (h : zH) (np : Nat) (np1 : 1 ≤ np) (np7 : np ≤ 7) : zSP (d + 1) 0 0 mR_begin [.inr (.inr 6), .inl (nI np), .inr (.inr 5)] h (fun r h' => r = .inl none ∧ zBeg h np h') := by
  have loop : ∀ (k p : Nat) (H : zH), p + k = np → H.1 9 2 = nI np → H.1 6 2 = 0 → (∀ i v, i < np → v < 5 → H.1 12 (5 * i + v) = if v = 1 ∧ i < p then (if h.1 2 3 < h.1 5 i then h.1 2 3 else h.1 5 i) else 0) → (∀ a j, ¬ (a = 6 ∧ j = 2) → a ≠ 7 → ¬ (a = 9 ∧ j = 2) → a ≠ 12 → H.1 a j = h.1 a j) → H.2 = h.2 →
      zMC false (d + 1) 0 0 0 0 mR_begin (fun r h' => r = .inl none ∧ zBeg h np h') 26 [some (.inr (.inr 6)), some (.inl (nI np)), some (.inr (.inr 5)), some (.inl (nI p))] [] H := by
    intro k
    induction k with
    | zero =>
      intro p H hk h2 h6 hv ho hl
      have e : p = np := by omega
      subst e
      refine r_iload_n (zdk oR_begin 14 rfl) rfl rfl ?_
      refine r_iload_n (zdk oR_begin 15 rfl) rfl rfl ?_
      refine r_icmp_ge (tgt := 60) (zdk oR_begin 16 rfl) (by decide) (fun _ => ?_) (fun q9 => absurd ((Int32.le_refl (nI p))) q9)
      refine r_aload_n (zdk oR_begin 32 rfl) rfl rfl ?_
      refine r_getr (kf := 1) (zdk oR_begin 33 rfl) rfl rfl (by decide) lF_R_9 rfl ?_
      refine r_aload_n (zdk oR_begin 34 rfl) rfl rfl ?_
      refine r_callV0i (M' := mR_all) (zdk oR_begin 35 rfl) lM_R_63 vR_all rfl rfl (Nat.le_of_ble_eq_true rfl) rfl (spR_all d H p h2 np7) ?_
      refine r_callS2v (M' := mA_fill) (zdk oR_begin 36 rfl) lM_R_41 sA_fill (Nat.le_of_ble_eq_true rfl) rfl (spA_fill d H 7 7 (nI (2 ^ p - 1)) rfl (by decide)) ?_
      refine r_vret (zdk oR_begin 37 rfl) rfl ?_
      refine ⟨rfl, ?_, ?_, ?_, ?_, ?_, ?_⟩
      · rw [zf1, if_neg (by omega), h2]
      · rw [zf1, if_neg (by omega), h6]
      · intro j hj
        rw [zf1, if_pos ⟨rfl, hj⟩]
      · intro i v hi hv5
        rw [zf1, if_neg (by omega), hv i v hi hv5]
        by_cases q : v = 1
        · rw [if_pos ⟨q, hi⟩, if_pos q]
        · rw [if_neg (fun z => q z.1), if_neg q]
      · intro a j c1 c2 c3 c4
        rw [zf1, if_neg (fun z => c2 z.1)]
        exact ho a j c1 c2 c3 c4
      · rw [zf2]; exact hl
    | succ k ih =>
      intro p H hk h2 h6 hv ho hl
      have ep : (nI p).toNatClampNeg = p := nI_clamp (by omega)
      have e5 : H.1 5 p = h.1 5 p := ho 5 p (by omega) (by decide) (by omega) (by decide)
      have e23 : H.1 2 (2 + 1) = h.1 2 3 := ho 2 3 (by decide) (by decide) (by decide) (by decide)
      have ei : (nI p * 5 + 1).toNatClampNeg = 5 * p + 1 := by
        rw [show (5 : Int32) = nI 5 from rfl, pk_mul, nI_1, nI_clamp (by omega)]
        omega
      have hin : vp_in (nI p * 5 + 1) 35 := by
        rw [show (5 : Int32) = nI 5 from rfl, pk_mul, nI_1]
        exact vp_in_nI (by omega) (by decide)
      refine r_iload_n (zdk oR_begin 14 rfl) rfl rfl ?_
      refine r_iload_n (zdk oR_begin 15 rfl) rfl rfl ?_
      refine r_icmp_ge (tgt := 60) (zdk oR_begin 16 rfl) (by decide) (fun q9 => absurd q9 ((nI_ge (a := p) (b := np) (by omega) (by omega)))) (fun _ => ?_)
      refine r_aload_n (zdk oR_begin 17 rfl) rfl rfl ?_
      refine r_getr (kf := 0) (zdk oR_begin 18 rfl) rfl rfl (by decide) lF_R_31 rfl ?_
      refine r_iload_n (zdk oR_begin 19 rfl) rfl rfl ?_
      refine r_iconst (v := 1) (zdk oR_begin 20 rfl) (by decide) ?_
      refine r_aload_n (zdk oR_begin 21 rfl) rfl rfl ?_
      refine r_iload_n (zdk oR_begin 22 rfl) rfl rfl ?_
      refine r_iald (zdk oR_begin 23 rfl) rfl (vp_in_nI (n := p) (by omega) (by decide)) ?_
      refine r_aload_n (zdk oR_begin 24 rfl) rfl rfl ?_
      refine r_getr (kf := 3) (zdk oR_begin 25 rfl) rfl rfl (by decide) lF_R_22 rfl ?_
      refine r_iconst (v := 1) (zdk oR_begin 26 rfl) (by decide) ?_
      rw [ep, e5]
      refine r_callV1i (M' := mP_range) (zdk oR_begin 27 rfl) lM_R_47 vP_range rfl rfl (Nat.le_of_ble_eq_true rfl) rfl (spP_range d H 1 (by decide)) ?_
      rw [e23]
      refine r_mmin (zdk oR_begin 28 rfl) lM_R_53 lX_minS lX_math lX_minC (Nat.le_of_ble_eq_true rfl) rfl ?_
      refine r_callV3v (M' := mG_setValue) (zdk oR_begin 29 rfl) lM_R_59 vG_setValue rfl rfl (Nat.le_of_ble_eq_true rfl) rfl (spG_setValue_9 d H (nI p) 1 _ hin) ?_
      rw [ei]
      first | refine r_iinc (zdk oR_begin 30 rfl) rfl (zinc _) rfl ?_ | refine r_iinc (zdk oR_begin 30 rfl) rfl rfl rfl ?_
      refine r_goto (tgt := 26) (zdk oR_begin 31 rfl) (by decide) ?_
      refine ih (p + 1) _ (by omega) ?_ ?_ ?_ ?_ ?_
      · rw [zp1, if_neg (by omega), h2]
      · rw [zp1, if_neg (by omega), h6]
      · intro i v hi hv5
        rw [zp1]
        by_cases q : i = p ∧ v = 1
        · rw [if_pos ⟨rfl, by omega⟩, if_pos (show v = 1 ∧ i < p + 1 from ⟨q.2, by omega⟩), q.1]
        · rw [if_neg (fun z => q ⟨by omega, by omega⟩), hv i v hi hv5]
          by_cases q2 : v = 1 ∧ i < p
          · rw [if_pos q2, if_pos (show v = 1 ∧ i < p + 1 from ⟨q2.1, by omega⟩)]
          · rw [if_neg q2, if_neg (fun z => q2 ⟨z.1, by omega⟩)]
      · intro a j c1 c2 c3 c4
        rw [zp1, if_neg (fun z => c4 z.1)]
        exact ho a j c1 c2 c3 c4
      · rw [zp2]; exact hl
  refine zmet (by decide +kernel) (Nat.le_of_ble_eq_true rfl) ?_
  refine r_aload_n (zdk oR_begin 0 rfl) rfl rfl ?_
  refine r_getr (kf := 0) (zdk oR_begin 1 rfl) rfl rfl (by decide) lF_R_31 rfl ?_
  refine r_iload_n (zdk oR_begin 2 rfl) rfl rfl ?_
  refine r_puti (kf := 2) (zdk oR_begin 3 rfl) rfl rfl (by decide) lF_R_35 rfl rfl (by decide +kernel) (Or.inl rfl) ?_
  refine r_aload_n (zdk oR_begin 4 rfl) rfl rfl ?_
  refine r_iconst (v := 0) (zdk oR_begin 5 rfl) (by decide) ?_
  refine r_puti (kf := 2) (zdk oR_begin 6 rfl) rfl rfl (by decide) lF_R_15 rfl rfl (by decide +kernel) (Or.inl rfl) ?_
  refine r_aload_n (zdk oR_begin 7 rfl) rfl rfl ?_
  refine r_getr (kf := 0) (zdk oR_begin 8 rfl) rfl rfl (by decide) lF_R_31 rfl ?_
  refine r_getr (kf := 1) (zdk oR_begin 9 rfl) rfl rfl (by decide) lF_R_38 rfl ?_
  refine r_iconst (v := 0) (zdk oR_begin 10 rfl) (by decide) ?_
  refine r_callS2v (M' := mA_fill) (zdk oR_begin 11 rfl) lM_R_41 sA_fill (Nat.le_of_ble_eq_true rfl) rfl (spA_fill d _ 12 35 0 rfl (by decide)) ?_
  refine r_iconst (v := 0) (zdk oR_begin 12 rfl) (by decide) ?_
  refine r_istore_n (zdk oR_begin 13 rfl) rfl (Nat.le_of_ble_eq_true rfl) rfl ?_
  refine loop np 0 _ (by omega) ?_ ?_ ?_ ?_ ?_
  · rw [zf1, if_neg (by omega), zp1, if_neg (by omega), zp1, if_pos ⟨rfl, rfl⟩]
  · rw [zf1, if_neg (by omega), zp1, if_pos ⟨rfl, rfl⟩]
  · intro i v hi hv5
    rw [zf1, if_pos ⟨rfl, by omega⟩, if_neg (by omega)]
  · intro a j c1 c2 c3 c4
    rw [zf1, if_neg (fun z => c4 z.1), zp1, if_neg (by omega), zp1, if_neg (by omega)]
  · rfl
/-- a round of the run by hand -/
def zGo (h : zH) (n ph vars np r : Nat) (h' : zH) : Prop := h'.1 9 2 = nI np ∧ h'.1 6 2 = nI (r + 1) ∧ (∀ j, j < 7 → h'.1 7 j = nI (2 ^ np - 1)) ∧ (∀ p, p < np → h'.1 11 p = pMsg (h.1 2) n vars ph np r (h.1 12) p) ∧ (∀ i, i < 7 → fGood (h'.1 11 i)) ∧
  (∀ p v, p < np → v < vars → h'.1 12 (5 * p + v) = pNxt (h.1 2) n vars ph np r (h.1 12) (pMsg (h.1 2) n vars ph np r (h.1 12)) (h.1 7 p) p v) ∧ (∀ a j, a < 6 ∨ 13 < a → h'.1 a j = h.1 a j) ∧ h'.2 = h.2
theorem spR_goOn (d : Nat) (h : zH) (n ph vars np r : Nat) (hck : zChk h n ph vars) (hn : n ≤ 400) (hp : h.1 9 2 = nI np) (np1 : 1 ≤ np) (np7 : np ≤ 7) (hr0 : h.1 6 2 = nI r) (hr : r ≤ 100) (hval : ∀ p v, p < np → v < vars → fGood (h.1 12 (5 * p + v))) (hm : ∀ i, i < 7 → fGood (h.1 11 i)) (hs : ∀ p, p < np → ∃ k, k < 2 ^ np ∧ h.1 7 p = nI k) :
    zSP (d + 4) 0 0 mR_goOn [.inr (.inr 6)] h (fun r0 h' => r0 = .inl none ∧ zGo h n ph vars np r h') := by
  obtain ⟨k5, k6, p1, p4, v2, v5, -⟩ := id hck
  have hrm : r % ph < ph := Nat.mod_lt _ (by omega)
  have hrp : r / ph ≤ r := Nat.div_le_self r ph
  have hqH := zChk_qH hck
  have p128 := pow7 np7
  -- between the processes: what is fixed since all have spoken
  have mid : ∀ (h1 : zH), zSpk h 9 n ph vars np r h1 → ∀ (k p : Nat) (H : zH), p + k = np → (∀ a j, ¬ (a = 9 ∧ j = 7) → a ≠ 8 → a ≠ 10 → a ≠ 13 → H.1 a j = h1.1 a j) → H.2 = h1.2 → (∀ i v, i < p → v < vars → H.1 8 (5 * i + v) = pNxt (h.1 2) n vars ph np r (h.1 12) (pMsg (h.1 2) n vars ph np r (h.1 12)) (h.1 7 i) i v) →
      zMC false (d + 4) 0 0 0 0 mR_goOn (fun r0 h' => r0 = .inl none ∧ zGo h n ph vars np r h') 13 [some (.inr (.inr 6)), some (.inl (nI p)), none] [] H := by
    intro h1 hspk k
    obtain ⟨s5, s6, sm, sg, so, sl⟩ := hspk
    have f1 : ∀ a j, ¬ (a = 9 ∧ 5 ≤ j) → a ≠ 11 → a ≠ 13 → h1.1 a j = h.1 a j := so
    induction k with
    | zero =>
      intro p H hk ho hl hx
      have e : p = np := by omega
      subst e
      have e2 : H.1 9 2 = nI p := by rw [ho 9 2 (by decide) (by decide) (by decide) (by decide), f1 9 2 (by decide) (by decide) (by decide), hp]
      have e62 : H.1 6 2 = nI r := by rw [ho 6 2 (by decide) (by decide) (by decide) (by decide), f1 6 2 (by decide) (by decide) (by decide), hr0]
      refine r_iload_n (zdk oR_goOn 7 rfl) rfl rfl ?_
      refine r_aload_n (zdk oR_goOn 8 rfl) rfl rfl ?_
      refine r_getr (kf := 0) (zdk oR_goOn 9 rfl) rfl rfl (by decide) lF_R_31 rfl ?_
      refine r_geti (kf := 2) (zdk oR_goOn 10 rfl) rfl rfl (by decide) lF_R_35 rfl ?_
      rw [e2]
      refine r_icmp_ge (tgt := 81) (zdk oR_goOn 11 rfl) (by decide) (fun _ => ?_) (fun q9 => absurd ((Int32.le_refl (nI p))) q9)
      refine r_aload_n (zdk oR_goOn 43 rfl) rfl rfl ?_
      refine r_getr (kf := 4) (zdk oR_goOn 44 rfl) rfl rfl (by decide) lF_R_19 rfl ?_
      refine r_iconst (v := 0) (zdk oR_goOn 45 rfl) (by decide) ?_
      refine r_aload_n (zdk oR_goOn 46 rfl) rfl rfl ?_
      refine r_getr (kf := 0) (zdk oR_goOn 47 rfl) rfl rfl (by decide) lF_R_31 rfl ?_
      refine r_getr (kf := 1) (zdk oR_goOn 48 rfl) rfl rfl (by decide) lF_R_38 rfl ?_
      refine r_iconst (v := 0) (zdk oR_goOn 49 rfl) (by decide) ?_
      refine r_aload_n (zdk oR_goOn 50 rfl) rfl rfl ?_
      refine r_getr (kf := 4) (zdk oR_goOn 51 rfl) rfl rfl (by decide) lF_R_19 rfl ?_
      refine r_alen (zdk oR_goOn 52 rfl) rfl rfl ?_
      refine r_copy (zdk oR_goOn 53 rfl) lM_R_81 lX_cpyN lX_cpyS lX_sys rfl rfl (by decide) (by decide) (by decide) (by decide) (by decide) (Nat.le_of_ble_eq_true rfl) rfl ?_
      have c12 : ∀ a j, (zcpy H 8 12 (0 : Int32).toNatClampNeg (0 : Int32).toNatClampNeg (Int32.ofNat 35).toNatClampNeg).1 a j = if a = 12 ∧ j < 35 then H.1 8 j else H.1 a j := by
        intro a j
        rw [zc1]
        rw [show (0 : Int32).toNatClampNeg = 0 from rfl, show (Int32.ofNat 35).toNatClampNeg = 35 from rfl]
        by_cases q : a = 12 ∧ j < 35
        · rw [if_pos q, if_pos ⟨q.1, by omega, by omega⟩, show 0 + (j - 0) = j by omega]
        · rw [if_neg q, if_neg (fun z => q ⟨z.1, by omega⟩)]
      have c22 : (zcpy H 8 12 (0 : Int32).toNatClampNeg (0 : Int32).toNatClampNeg (Int32.ofNat 35).toNatClampNeg).2 = H.2 := rfl
      generalize zcpy H 8 12 (0 : Int32).toNatClampNeg (0 : Int32).toNatClampNeg (Int32.ofNat 35).toNatClampNeg = H2 at c12 c22 ⊢
      have e22 : H2.1 9 2 = nI p := by rw [c12, if_neg (by omega), e2]
      refine r_aload_n (zdk oR_goOn 54 rfl) rfl rfl ?_
      refine r_getr (kf := 1) (zdk oR_goOn 55 rfl) rfl rfl (by decide) lF_R_9 rfl ?_
      refine r_aload_n (zdk oR_goOn 56 rfl) rfl rfl ?_
      refine r_callV0i (M' := mR_all) (zdk oR_goOn 57 rfl) lM_R_63 vR_all rfl rfl (Nat.le_of_ble_eq_true rfl) rfl (spR_all (d + 3) H2 p e22 np7) ?_
      refine r_callS2v (M' := mA_fill) (zdk oR_goOn 58 rfl) lM_R_41 sA_fill (Nat.le_of_ble_eq_true rfl) rfl (spA_fill (d + 3) H2 7 7 (nI (2 ^ p - 1)) rfl (by decide)) ?_
      refine r_aload_n (zdk oR_goOn 59 rfl) rfl rfl ?_
      refine r_dup (zdk oR_goOn 60 rfl) rfl ?_
      refine r_geti (kf := 2) (zdk oR_goOn 61 rfl) rfl rfl (by decide) lF_R_15 rfl ?_
      have e63 : (zfill H2 7 7 (nI (2 ^ p - 1))).1 6 2 = nI r := by rw [zf1, if_neg (by omega), c12, if_neg (by omega), e62]
      rw [e63]
      refine r_iconst (v := 1) (zdk oR_goOn 62 rfl) (by decide) ?_
      refine r_iadd (zdk oR_goOn 63 rfl) ?_
      refine r_tp (nI_1 r) ?_
      refine r_puti (kf := 2) (zdk oR_goOn 64 rfl) rfl rfl (by decide) lF_R_15 rfl rfl (by decide +kernel) (Or.inl rfl) ?_
      refine r_vret (zdk oR_goOn 65 rfl) rfl ?_
      refine ⟨rfl, ?_, ?_, ?_, ?_, ?_, ?_, ?_, ?_⟩
      · rw [zp1, if_neg (by omega), zf1, if_neg (by omega), e22]
      · rw [zp1, if_pos ⟨rfl, rfl⟩]
      · intro j hj
        rw [zp1, if_neg (by omega), zf1, if_pos ⟨rfl, hj⟩]
      · intro i hi
        rw [zp1, if_neg (by omega), zf1, if_neg (by omega), c12, if_neg (by omega), ho 11 i (by omega) (by decide) (by decide) (by decide)]
        exact sm i hi
      · intro i hi
        rw [zp1, if_neg (by omega), zf1, if_neg (by omega), c12, if_neg (by omega), ho 11 i (by omega) (by decide) (by decide) (by decide)]
        exact sg i hi
      · intro i v hi hv
        rw [zp1, if_neg (by omega), zf1, if_neg (by omega), c12, if_pos ⟨rfl, by omega⟩]
        exact hx i v hi hv
      · intro a j ha
        rw [zp1, if_neg (by omega), zf1, if_neg (by omega), c12, if_neg (by omega), ho a j (by omega) (by omega) (by omega) (by omega)]
        exact f1 a j (by omega) (by omega) (by omega)
      · rw [zp2, zf2, c22, hl]; exact sl
    | succ k ih =>
      intro p H hk ho hl hx
      have ep : (nI p).toNatClampNeg = p := nI_clamp (by omega)
      have e2 : H.1 9 2 = nI np := by rw [ho 9 2 (by decide) (by decide) (by decide) (by decide), f1 9 2 (by decide) (by decide) (by decide), hp]
      obtain ⟨ks, hks, eks⟩ := hs p (by omega)
      have e7 : H.1 7 p = nI ks := by rw [ho 7 p (by omega) (by decide) (by decide) (by decide), f1 7 p (by omega) (by decide) (by decide), eks]
      refine r_iload_n (zdk oR_goOn 7 rfl) rfl rfl ?_
      refine r_aload_n (zdk oR_goOn 8 rfl) rfl rfl ?_
      refine r_getr (kf := 0) (zdk oR_goOn 9 rfl) rfl rfl (by decide) lF_R_31 rfl ?_
      refine r_geti (kf := 2) (zdk oR_goOn 10 rfl) rfl rfl (by decide) lF_R_35 rfl ?_
      rw [e2]
      refine r_icmp_ge (tgt := 81) (zdk oR_goOn 11 rfl) (by decide) (fun q9 => absurd q9 ((nI_ge (a := p) (b := np) (by omega) (by omega)))) (fun _ => ?_)
      refine r_aload_n (zdk oR_goOn 12 rfl) rfl rfl ?_
      refine r_getr (kf := 0) (zdk oR_goOn 13 rfl) rfl rfl (by decide) lF_R_31 rfl ?_
      refine r_iload_n (zdk oR_goOn 14 rfl) rfl rfl ?_
      refine r_aload_n (zdk oR_goOn 15 rfl) rfl rfl ?_
      refine r_getr (kf := 1) (zdk oR_goOn 16 rfl) rfl rfl (by decide) lF_R_9 rfl ?_
      refine r_iload_n (zdk oR_goOn 17 rfl) rfl rfl ?_
      refine r_iald (zdk oR_goOn 18 rfl) rfl (vp_in_nI (n := p) (by omega) (by decide)) ?_
      rw [ep, e7]
      have hm11 : ∀ i, i < 7 → fGood (H.1 11 i) := fun i hi => by rw [ho 11 i (by omega) (by decide) (by decide) (by decide)]; exact sg i hi
      have hE : ∃ x, x = zListen (zput H 9 7 (nI p)) 10 (H.1 11) (nI ks) 7 := ⟨_, rfl⟩
      obtain ⟨H2, hH2⟩ := hE
      have tt := spG_turnTo_9 (d + 1) H (nI p) (nI ks) hm11
      rw [← hH2] at tt
      refine r_callV2v (M' := mG_turnTo) (zdk oR_goOn 19 rfl) lM_R_71 vG_turnTo rfl rfl (Nat.le_of_ble_eq_true rfl) rfl (tt) ?_
      have g2 : ∀ a j, a ≠ 10 → H2.1 a j = (zput H 9 7 (nI p)).1 a j := fun a j ha => by rw [hH2]; exact zEars_o ha
      have g3 : ∀ a j, ¬ (a = 9 ∧ j = 7) → a ≠ 10 → H2.1 a j = H.1 a j := fun a j c1 c2 => by rw [g2 a j c2, zp1, if_neg c1]
      have gl : H2.2 = H.2 := by rw [hH2]; rfl
      have hear : gEar H2 9 ks := by
        have := gEar_listen_9 (zput H 9 7 (nI p)) ks
        rw [show (zput H 9 7 (nI p)).1 11 = H.1 11 from funext (fun j => by rw [zp1, if_neg (by omega)]), ← hH2] at this
        exact this
      clear hH2 tt
      have b1 : ∀ a j, a ≤ 4 → H2.1 a j = h.1 a j := fun a j ha => by rw [g3 a j (by omega) (by omega), ho a j (by omega) (by omega) (by omega) (by omega)]; exact f1 a j (by omega) (by omega) (by omega)
      have b12 : H2.1 12 = h.1 12 := funext (fun j => by rw [g3 12 j (by omega) (by decide), ho 12 j (by omega) (by decide) (by decide) (by decide)]; exact f1 12 j (by omega) (by decide) (by decide))
      have b11 : H2.1 11 = h1.1 11 := funext (fun j => by rw [g3 11 j (by omega) (by decide), ho 11 j (by omega) (by decide) (by decide) (by decide)])
      have b2 : H2.1 2 = h.1 2 := funext (fun j => b1 2 j (by decide))
      -- the values of this process
      have inner : ∀ (k2 v : Nat) (H3 : zH), v + k2 = vars → (∀ a j, a ≠ 8 → a ≠ 13 → H3.1 a j = H2.1 a j) → H3.2 = H2.2 → (∀ i v, i < p → v < vars → H3.1 8 (5 * i + v) = pNxt (h.1 2) n vars ph np r (h.1 12) (pMsg (h.1 2) n vars ph np r (h.1 12)) (h.1 7 i) i v) → (∀ v', v' < v → H3.1 8 (5 * p + v') = pNxt (h.1 2) n vars ph np r (h.1 12) (pMsg (h.1 2) n vars ph np r (h.1 12)) (h.1 7 p) p v') →
          zMC false (d + 4) 0 0 0 0 mR_goOn (fun r0 h' => r0 = .inl none ∧ zGo h n ph vars np r h') 40 [some (.inr (.inr 6)), some (.inl (nI p)), some (.inl (nI v))] [] H3 := by
        intro k2
        induction k2 with
        | zero =>
          intro v H3 hv0 o3 l3 x3 y3
          have ev : v = vars := by omega
          subst ev
          have q6 : H3.1 1 6 = nI v := by rw [o3 1 6 (by decide) (by decide), b1 1 6 (by decide), k6]
          refine r_iload_n (zdk oR_goOn 22 rfl) rfl rfl ?_
          refine r_aload_n (zdk oR_goOn 23 rfl) rfl rfl ?_
          refine r_getr (kf := 3) (zdk oR_goOn 24 rfl) rfl rfl (by decide) lF_R_22 rfl ?_
          refine r_geti (kf := 6) (zdk oR_goOn 25 rfl) rfl rfl (by decide) lF_R_75 rfl ?_
          rw [q6]
          refine r_icmp_ge (tgt := 75) (zdk oR_goOn 26 rfl) (by decide) (fun _ => ?_) (fun q9 => absurd ((Int32.le_refl (nI v))) q9)
          first | refine r_iinc (zdk oR_goOn 41 rfl) rfl (zinc _) rfl ?_ | refine r_iinc (zdk oR_goOn 41 rfl) rfl rfl rfl ?_
          refine r_goto (tgt := 13) (zdk oR_goOn 42 rfl) (by decide) ?_
          refine r_mask [true, true, false] rfl rfl ?_
          refine ih (p + 1) H3 (by omega) ?_ ?_ ?_
          · intro a j c1 c2 c3 c4
            rw [o3 a j c2 c4, g3 a j c1 c3]
            exact ho a j c1 c2 c3 c4
          · rw [l3, gl, hl]
          · intro i v' hi hv'
            by_cases q : i = p
            · rw [q]; exact y3 v' hv'
            · exact x3 i v' (by omega) hv'
        | succ k2 ih2 =>
          intro v H3 hv0 o3 l3 x3 y3
          have q6 : H3.1 1 6 = nI vars := by rw [o3 1 6 (by decide) (by decide), b1 1 6 (by decide), k6]
          refine r_iload_n (zdk oR_goOn 22 rfl) rfl rfl ?_
          refine r_aload_n (zdk oR_goOn 23 rfl) rfl rfl ?_
          refine r_getr (kf := 3) (zdk oR_goOn 24 rfl) rfl rfl (by decide) lF_R_22 rfl ?_
          refine r_geti (kf := 6) (zdk oR_goOn 25 rfl) rfl rfl (by decide) lF_R_75 rfl ?_
          rw [q6]
          refine r_icmp_ge (tgt := 75) (zdk oR_goOn 26 rfl) (by decide) (fun q9 => absurd q9 ((nI_ge (a := v) (b := vars) (by omega) (by omega)))) (fun _ => ?_)
          refine r_aload_n (zdk oR_goOn 27 rfl) rfl rfl ?_
          refine r_getr (kf := 4) (zdk oR_goOn 28 rfl) rfl rfl (by decide) lF_R_19 rfl ?_
          refine r_iload_n (zdk oR_goOn 29 rfl) rfl rfl ?_
          refine r_iconst (v := 5) (zdk oR_goOn 30 rfl) (by decide) ?_
          refine r_imul (zdk oR_goOn 31 rfl) ?_
          refine r_tp (pk_mul p 5) ?_
          refine r_iload_n (zdk oR_goOn 32 rfl) rfl rfl ?_
          refine r_iadd (zdk oR_goOn 33 rfl) ?_
          refine r_tp (nI_add (p * 5) v) ?_
          refine r_aload_n (zdk oR_goOn 34 rfl) rfl rfl ?_
          refine r_getr (kf := 0) (zdk oR_goOn 35 rfl) rfl rfl (by decide) lF_R_31 rfl ?_
          refine r_iload_n (zdk oR_goOn 36 rfl) rfl rfl ?_
          have d1 : ∀ a j, a ≤ 4 → H3.1 a j = h.1 a j := fun a j ha => by rw [o3 a j (by omega) (by omega)]; exact b1 a j ha
          have d2 : H3.1 2 = h.1 2 := funext (fun j => d1 2 j (by decide))
          have d12 : H3.1 12 = h.1 12 := by rw [← b12]; exact funext (fun j => o3 12 j (by decide) (by decide))
          have d11 : H3.1 11 = h1.1 11 := by rw [← b11]; exact funext (fun j => o3 11 j (by decide) (by decide))
          have gat : gAt H3 9 p np (r / ph) := ⟨by rw [o3 9 7 (by decide) (by decide), g2 9 7 (by decide), zp1, if_pos ⟨rfl, rfl⟩], by rw [o3 9 2 (by decide) (by decide), g3 9 2 (by decide) (by decide), e2], by rw [o3 9 6 (by decide) (by decide), g3 9 6 (by decide) (by decide), ho 9 6 (by decide) (by decide) (by decide) (by decide), s6], by omega, np7, by omega⟩
          have ger : gEar H3 9 ks := by
            have := hear
            unfold gEar at this ⊢
            rw [show H3.1 (9 + 2) = H2.1 (9 + 2) from funext (fun j => o3 11 j (by decide) (by decide)), o3 (9 + 1) 6 (by decide) (by decide), o3 (9 + 1) 1 (by decide) (by decide), o3 (9 + 1) 2 (by decide) (by decide), o3 (9 + 1) 3 (by decide) (by decide), o3 (9 + 1) 4 (by decide) (by decide), o3 (9 + 1) 5 (by decide) (by decide)]
            exact this
          refine r_callV1 (M' := mG_workOut) (zdk oR_goOn 37 rfl) lM_R_78 vG_workOut rfl rfl (Nat.le_of_ble_eq_true rfl) rfl (spG_next_9 (d + 1) H3 n ph vars np r p v ks (zChk_congr d1 hck) hn gat ger hks (by rw [o3 9 5 (by decide) (by decide), g3 9 5 (by decide) (by decide), ho 9 5 (by decide) (by decide) (by decide) (by decide), s5]) (by omega) (fun v' hv' => by rw [d12]; exact hval p v' (by omega) hv') (fun i hi => by rw [d11]; exact sg i (by omega))) ?_
          intro r0 h5 hw
          obtain ⟨er, o5, l5⟩ := hw
          cases er
          have enx : pNxt (H3.1 2) n vars ph np r (H3.1 12) (H3.1 11) (nI ks) p v = pNxt (h.1 2) n vars ph np r (h.1 12) (pMsg (h.1 2) n vars ph np r (h.1 12)) (h.1 7 p) p v := by
            rw [d2, d12, d11, eks]
            exact pNxt_congr hqH p1 v5 (by omega) (fun _ _ => rfl) (fun i hi => sm i hi)
          rw [enx]
          refine r_iast (zdk oR_goOn 38 rfl) rfl (vp_in_nI (n := p * 5 + v) (by omega) (by decide)) ?_
          first | refine r_iinc (zdk oR_goOn 39 rfl) rfl (zinc _) rfl ?_ | refine r_iinc (zdk oR_goOn 39 rfl) rfl rfl rfl ?_
          refine r_goto (tgt := 40) (zdk oR_goOn 40 rfl) (by decide) ?_
          rw [nI_clamp (n := p * 5 + v) (by omega)]
          refine ih2 (v + 1) _ (by omega) ?_ ?_ ?_ ?_
          · intro a j c1 c2
            rw [zp1, if_neg (fun z => c1 z.1), o5 a j c2]
            exact o3 a j c1 c2
          · rw [zp2, l5, l3]
          · intro i v' hi hv'
            rw [zp1, if_neg (by omega), o5 8 _ (by decide)]
            exact x3 i v' hi hv'
          · intro v' hv'
            rw [zp1]
            by_cases q : v' = v
            · rw [if_pos ⟨rfl, by omega⟩, q]
            · rw [if_neg (by omega), o5 8 _ (by decide)]
              exact y3 v' (by omega)
      refine r_iconst (v := 0) (zdk oR_goOn 20 rfl) (by decide) ?_
      refine r_istore_n (zdk oR_goOn 21 rfl) rfl (Nat.le_of_ble_eq_true rfl) rfl ?_
      exact inner vars 0 H2 (by omega) (fun _ _ _ _ => rfl) rfl (fun i v hi hv => by rw [g3 8 _ (by omega) (by decide)]; exact hx i v hi hv) (fun v' hv' => by omega)
  refine zmet (by decide +kernel) (Nat.le_of_ble_eq_true rfl) ?_
  refine r_aload_n (zdk oR_goOn 0 rfl) rfl rfl ?_
  refine r_getr (kf := 0) (zdk oR_goOn 1 rfl) rfl rfl (by decide) lF_R_31 rfl ?_
  refine r_aload_n (zdk oR_goOn 2 rfl) rfl rfl ?_
  refine r_geti (kf := 2) (zdk oR_goOn 3 rfl) rfl rfl (by decide) lF_R_15 rfl ?_
  rw [hr0]
  refine r_callV1 (M' := mG_speak) (zdk oR_goOn 4 rfl) lM_R_67 vG_speak rfl rfl (Nat.le_of_ble_eq_true rfl) rfl (spG_speak_9 d h n ph vars np r hck hn hp np1 np7 (by omega) hval hm) ?_
  intro r0 h1 hw
  obtain ⟨er, hspk⟩ := hw
  cases er
  refine r_iconst (v := 0) (zdk oR_goOn 5 rfl) (by decide) ?_
  refine r_istore_n (zdk oR_goOn 6 rfl) rfl (Nat.le_of_ble_eq_true rfl) rfl ?_
  exact mid h1 hspk np 0 h1 (by omega) (fun _ _ _ _ _ _ => rfl) rfl (fun i v hi => by omega)
