/-! the class's search: numbers -/
theorem spI_bitCount (d : Nat) (h : zH) (s : Nat) (hs : s < 8) : zSP d 0 0 mI_bitCount [.inl (nI s)] h (zI (nI (xBc s)) h) := by
  refine zmet (by decide +kernel) (Nat.le_of_ble_eq_true rfl) ?_
  refine r_iload_n (zdk oI_bitCount 0 rfl) rfl rfl ?_
  refine r_iload_n (zdk oI_bitCount 1 rfl) rfl rfl ?_
  refine r_iconst (v := 1) (zdk oI_bitCount 2 rfl) (by decide) ?_
  refine r_iushr (zdk oI_bitCount 3 rfl) ?_
  refine r_ldcw (zdk oI_bitCount 4 rfl) lC_I_265 ?_
  refine r_iand (zdk oI_bitCount 5 rfl) ?_
  refine r_isub (zdk oI_bitCount 6 rfl) ?_
  refine r_istore_n (zdk oI_bitCount 7 rfl) rfl (Nat.le_of_ble_eq_true rfl) rfl ?_
  refine r_iload_n (zdk oI_bitCount 8 rfl) rfl rfl ?_
  refine r_ldcw (zdk oI_bitCount 9 rfl) lC_I_266 ?_
  refine r_iand (zdk oI_bitCount 10 rfl) ?_
  refine r_iload_n (zdk oI_bitCount 11 rfl) rfl rfl ?_
  refine r_iconst (v := 2) (zdk oI_bitCount 12 rfl) (by decide) ?_
  refine r_iushr (zdk oI_bitCount 13 rfl) ?_
  refine r_ldcw (zdk oI_bitCount 14 rfl) lC_I_266 ?_
  refine r_iand (zdk oI_bitCount 15 rfl) ?_
  refine r_iadd (zdk oI_bitCount 16 rfl) ?_
  refine r_istore_n (zdk oI_bitCount 17 rfl) rfl (Nat.le_of_ble_eq_true rfl) rfl ?_
  refine r_iload_n (zdk oI_bitCount 18 rfl) rfl rfl ?_
  refine r_iload_n (zdk oI_bitCount 19 rfl) rfl rfl ?_
  refine r_iconst (v := 4) (zdk oI_bitCount 20 rfl) (by decide) ?_
  refine r_iushr (zdk oI_bitCount 21 rfl) ?_
  refine r_iadd (zdk oI_bitCount 22 rfl) ?_
  refine r_ldcw (zdk oI_bitCount 23 rfl) lC_I_267 ?_
  refine r_iand (zdk oI_bitCount 24 rfl) ?_
  refine r_istore_n (zdk oI_bitCount 25 rfl) rfl (Nat.le_of_ble_eq_true rfl) rfl ?_
  refine r_iload_n (zdk oI_bitCount 26 rfl) rfl rfl ?_
  refine r_iload_n (zdk oI_bitCount 27 rfl) rfl rfl ?_
  refine r_bipush (v := 8) (zdk oI_bitCount 28 rfl) (by decide) ?_
  refine r_iushr (zdk oI_bitCount 29 rfl) ?_
  refine r_iadd (zdk oI_bitCount 30 rfl) ?_
  refine r_istore_n (zdk oI_bitCount 31 rfl) rfl (Nat.le_of_ble_eq_true rfl) rfl ?_
  refine r_iload_n (zdk oI_bitCount 32 rfl) rfl rfl ?_
  refine r_iload_n (zdk oI_bitCount 33 rfl) rfl rfl ?_
  refine r_bipush (v := 16) (zdk oI_bitCount 34 rfl) (by decide) ?_
  refine r_iushr (zdk oI_bitCount 35 rfl) ?_
  refine r_iadd (zdk oI_bitCount 36 rfl) ?_
  refine r_istore_n (zdk oI_bitCount 37 rfl) rfl (Nat.le_of_ble_eq_true rfl) rfl ?_
  refine r_iload_n (zdk oI_bitCount 38 rfl) rfl rfl ?_
  refine r_bipush (v := 63) (zdk oI_bitCount 39 rfl) (by decide) ?_
  refine r_iand (zdk oI_bitCount 40 rfl) ?_
  refine r_iret (zdk oI_bitCount 41 rfl) rfl ?_
  refine zIi ?_
  have : s = 0 ∨ s = 1 ∨ s = 2 ∨ s = 3 ∨ s = 4 ∨ s = 5 ∨ s = 6 ∨ s = 7 := by omega
  rcases this with rfl | rfl | rfl | rfl | rfl | rfl | rfl | rfl <;> decide +kernel
theorem nI_15 (x : Nat) : nI x &&& 15 = nI (x % 16) := by
  refine Int32.toBitVec_inj.mp ?_
  rw [Int32.toBitVec_and]
  refine BitVec.eq_of_toNat_eq ?_
  rw [BitVec.toNat_and]
  show (BitVec.ofNat 32 x).toNat &&& 15 = (BitVec.ofNat 32 (x % 16)).toNat
  rw [BitVec.toNat_ofNat, BitVec.toNat_ofNat, show (15 : Nat) = 2 ^ 4 - 1 from rfl, Nat.and_two_pow_sub_one_eq_mod]
  omega
theorem spS_digit (d : Nat) (h : zH) (np c p : Nat) (hn : h.1 14 13 = nI np) (h3 : np ≤ 3) (hc : c < 512) (hp : p < np) : zSP d 0 0 mS_digit [.inr (.inr 14), .inl (nI c), .inl (nI p), .inl (nI np)] h (zI (nI (xSt np c p)) h) := by
  refine zmet (by decide +kernel) (Nat.le_of_ble_eq_true rfl) ?_
  refine r_iload_n (zdk oS_digit 0 rfl) rfl rfl ?_
  refine r_iload_n (zdk oS_digit 1 rfl) rfl rfl ?_
  refine r_aload_n (zdk oS_digit 2 rfl) rfl rfl ?_
  refine r_geti (kf := 13) (zdk oS_digit 3 rfl) rfl rfl (by decide) lF_S_47 rfl ?_
  rw [hn]
  refine r_iconst (v := 1) (zdk oS_digit 4 rfl) (by decide) ?_
  refine r_isub (zdk oS_digit 5 rfl) ?_
  refine r_iload_n (zdk oS_digit 6 rfl) rfl rfl ?_
  refine r_isub (zdk oS_digit 7 rfl) ?_
  refine r_imul (zdk oS_digit 8 rfl) ?_
  refine r_ishr (zdk oS_digit 9 rfl) ?_
  refine r_iconst (v := 1) (zdk oS_digit 10 rfl) (by decide) ?_
  refine r_iload_n (zdk oS_digit 11 rfl) rfl rfl ?_
  refine r_ishl (zdk oS_digit 12 rfl) ?_
  refine r_iconst (v := 1) (zdk oS_digit 13 rfl) (by decide) ?_
  refine r_isub (zdk oS_digit 14 rfl) ?_
  refine r_iand (zdk oS_digit 15 rfl) ?_
  refine r_iret (zdk oS_digit 16 rfl) rfl ?_
  exact zIi (xSt_i h3 hc hp)
theorem spS_digit2 (d : Nat) (h : zH) (np c p : Nat) (hn : h.1 14 13 = nI np) (h3 : np ≤ 3) (hc : c < 64) (hp : p < np) : zSP d 0 0 mS_digit [.inr (.inr 14), .inl (nI c), .inl (nI p), .inl 2] h (zI (nI (xQ np c p)) h) := by
  refine zmet (by decide +kernel) (Nat.le_of_ble_eq_true rfl) ?_
  refine r_iload_n (zdk oS_digit 0 rfl) rfl rfl ?_
  refine r_iload_n (zdk oS_digit 1 rfl) rfl rfl ?_
  refine r_aload_n (zdk oS_digit 2 rfl) rfl rfl ?_
  refine r_geti (kf := 13) (zdk oS_digit 3 rfl) rfl rfl (by decide) lF_S_47 rfl ?_
  rw [hn]
  refine r_iconst (v := 1) (zdk oS_digit 4 rfl) (by decide) ?_
  refine r_isub (zdk oS_digit 5 rfl) ?_
  refine r_iload_n (zdk oS_digit 6 rfl) rfl rfl ?_
  refine r_isub (zdk oS_digit 7 rfl) ?_
  refine r_imul (zdk oS_digit 8 rfl) ?_
  refine r_ishr (zdk oS_digit 9 rfl) ?_
  refine r_iconst (v := 1) (zdk oS_digit 10 rfl) (by decide) ?_
  refine r_iload_n (zdk oS_digit 11 rfl) rfl rfl ?_
  refine r_ishl (zdk oS_digit 12 rfl) ?_
  refine r_iconst (v := 1) (zdk oS_digit 13 rfl) (by decide) ?_
  refine r_isub (zdk oS_digit 14 rfl) ?_
  refine r_iand (zdk oS_digit 15 rfl) ?_
  refine r_iret (zdk oS_digit 16 rfl) rfl ?_
  exact zIi (xQ_i h3 hc hp)
theorem x45 (p v : Nat) : (20 : Int32) * nI p + 4 * nI v = nI (4 * (5 * p + v)) := by
  rw [show (20 : Int32) = nI 20 from rfl, show (4 : Int32) = nI 4 from rfl, pk_mul, pk_mul, nI_add]
  congr 1
  omega
theorem spS_packed (d : Nat) (h : zH) (a p v : Nat) (ha : a < 2 ^ 31) (hp : p < 3) (hv : v < 5) : zSP d 0 0 mS_packed [.inl (nI a), .inl (nI p), .inl (nI v)] h (zJ (nJ (a * 16 ^ (5 * p + v))) h) := by
  refine zmet (by decide +kernel) (Nat.le_of_ble_eq_true rfl) ?_
  refine r_iload_n (zdk oS_packed 0 rfl) rfl rfl ?_
  refine r_i2l (zdk oS_packed 1 rfl) ?_
  refine r_bipush (v := 20) (zdk oS_packed 2 rfl) (by decide) ?_
  refine r_iload_n (zdk oS_packed 3 rfl) rfl rfl ?_
  refine r_imul (zdk oS_packed 4 rfl) ?_
  refine r_iconst (v := 4) (zdk oS_packed 5 rfl) (by decide) ?_
  refine r_iload_n (zdk oS_packed 6 rfl) rfl rfl ?_
  refine r_imul (zdk oS_packed 7 rfl) ?_
  refine r_iadd (zdk oS_packed 8 rfl) ?_
  refine r_tp (x45 p v) ?_
  refine r_lshl (zdk oS_packed 9 rfl) ?_
  refine r_lret (zdk oS_packed 10 rfl) rfl ?_
  exact zJi (by rw [nJ_i2l ha, nJ_shl _ _ (by omega), Nat.pow_mul])
theorem spS_unpacked (d : Nat) (h : zH) (K p v : Nat) (hK : K < 2 ^ 63) (hp : p < 3) (hv : v < 5) : zSP d 0 0 mS_unpacked [.inr (.inl (nJ K)), .inl (nI p), .inl (nI v)] h (zI (nI (xD K (5 * p + v))) h) := by
  refine zmet (by decide +kernel) (Nat.le_of_ble_eq_true rfl) ?_
  refine r_lload_n (zdk oS_unpacked 0 rfl) rfl rfl ?_
  refine r_bipush (v := 20) (zdk oS_unpacked 1 rfl) (by decide) ?_
  refine r_iload_n (zdk oS_unpacked 2 rfl) rfl rfl ?_
  refine r_imul (zdk oS_unpacked 3 rfl) ?_
  refine r_iconst (v := 4) (zdk oS_unpacked 4 rfl) (by decide) ?_
  refine r_iload_n (zdk oS_unpacked 5 rfl) rfl rfl ?_
  refine r_imul (zdk oS_unpacked 6 rfl) ?_
  refine r_iadd (zdk oS_unpacked 7 rfl) ?_
  refine r_tp (x45 p v) ?_
  refine r_lushr (zdk oS_unpacked 8 rfl) ?_
  rw [nJ_ushr K _ hK (by omega)]
  refine r_l2i (zdk oS_unpacked 9 rfl) ?_
  rw [nJ_l2i]
  refine r_bipush (v := 15) (zdk oS_unpacked 10 rfl) (by decide) ?_
  refine r_iand (zdk oS_unpacked 11 rfl) ?_
  refine r_iret (zdk oS_unpacked 12 rfl) rfl ?_
  exact zIi (by rw [nI_15, Nat.pow_mul]; rfl)
/-- digits written from a place on -/
def zwd (h : zH) (pl : Nat) (D : Nat → Nat) (m : Nat) : zH := (fun a j => if a = 15 ∧ pl ≤ j ∧ j < pl + m then nI (D (j - pl)) else h.1 a j, h.2)
theorem zwd1 {h : zH} {pl m a j : Nat} {D : Nat → Nat} : (zwd h pl D m).1 a j = if a = 15 ∧ pl ≤ j ∧ j < pl + m then nI (D (j - pl)) else h.1 a j := rfl
theorem zwd_s {h : zH} {pl m : Nat} {D : Nat → Nat} : zput (zwd h pl D m) 15 (pl + m) (nI (D m)) = zwd h pl D (m + 1) := by
  refine Prod.ext ?_ rfl
  funext a j
  simp only [zp1, zwd1]
  by_cases q : a = 15 ∧ j = pl + m
  · have c1 : a = 15 ∧ pl ≤ j ∧ j < pl + (m + 1) := by omega
    rw [if_pos q, if_pos c1, q.2, Nat.add_sub_cancel_left]
  · rw [if_neg q]
    by_cases q2 : a = 15 ∧ pl ≤ j ∧ j < pl + m
    · have c1 : a = 15 ∧ pl ≤ j ∧ j < pl + (m + 1) := by omega
      rw [if_pos q2, if_pos c1]
    · have c1 : ¬ (a = 15 ∧ pl ≤ j ∧ j < pl + (m + 1)) := by omega
      rw [if_neg q2, if_neg c1]
theorem spS_writeDigits (d : Nat) (h : zH) (np pl : Nat) (c b : Int32) (D : Nat → Nat) (hn : h.1 14 13 = nI np) (h3 : np ≤ 3) (hpl : pl + np ≤ 18) (hd : ∀ p H, p < np → H.1 14 13 = nI np → zSP d 0 0 mS_digit [.inr (.inr 14), .inl c, .inl (nI p), .inl b] H (zI (nI (D p)) H)) : zSP (d + 1) 0 0 mS_writeDigits [.inr (.inr 14), .inl c, .inl (nI pl), .inl b] h (zU (zwd h pl D np)) := by
  suffices main : ∀ K : zR → zH → Prop, K (.inl none) (zwd h pl D np) → zSP (d + 1) 0 0 mS_writeDigits [.inr (.inr 14), .inl c, .inl (nI pl), .inl b] h K from main _ (zUi rfl)
  intro K hK
  have loop : ∀ (k p : Nat), p + k = np → zMC false (d + 1) 0 0 0 0 mS_writeDigits K 3 [some (.inr (.inr 14)), some (.inl c), some (.inl (nI pl)), some (.inl b), some (.inl (nI p))] [] (zwd h pl D p) := by
    intro k
    induction k with
    | zero =>
      intro p hp
      have e : p = np := by omega
      subst e
      have g : (zwd h pl D p).1 14 13 = nI p := by rw [zwd1, if_neg (by omega), hn]
      refine r_iload (zdk oS_writeDigits 2 rfl) rfl ?_
      refine r_aload_n (zdk oS_writeDigits 3 rfl) rfl rfl ?_
      refine r_geti (kf := 13) (zdk oS_writeDigits 4 rfl) rfl rfl (by decide) lF_S_47 rfl ?_
      rw [g]
      refine r_icmp_ge (tgt := 35) (zdk oS_writeDigits 5 rfl) (by decide) (fun _ => ?_) (fun q9 => absurd ((Int32.le_refl (nI p))) q9)
      refine r_vret (zdk oS_writeDigits 19 rfl) rfl ?_
      exact hK
    | succ k ih =>
      intro p hp
      have g : (zwd h pl D p).1 14 13 = nI np := by rw [zwd1, if_neg (by omega), hn]
      refine r_iload (zdk oS_writeDigits 2 rfl) rfl ?_
      refine r_aload_n (zdk oS_writeDigits 3 rfl) rfl rfl ?_
      refine r_geti (kf := 13) (zdk oS_writeDigits 4 rfl) rfl rfl (by decide) lF_S_47 rfl ?_
      rw [g]
      refine r_icmp_ge (tgt := 35) (zdk oS_writeDigits 5 rfl) (by decide) (fun q9 => absurd q9 ((nI_ge (a := p) (b := np) (by omega) (by omega)))) (fun _ => ?_)
      refine r_aload_n (zdk oS_writeDigits 6 rfl) rfl rfl ?_
      refine r_getr (kf := 3) (zdk oS_writeDigits 7 rfl) rfl rfl (by decide) lF_S_21 rfl ?_
      refine r_iload_n (zdk oS_writeDigits 8 rfl) rfl rfl ?_
      refine r_iload (zdk oS_writeDigits 9 rfl) rfl ?_
      refine r_iadd (zdk oS_writeDigits 10 rfl) ?_
      refine r_tp (nI_add pl p) ?_
      refine r_aload_n (zdk oS_writeDigits 11 rfl) rfl rfl ?_
      refine r_iload_n (zdk oS_writeDigits 12 rfl) rfl rfl ?_
      refine r_iload (zdk oS_writeDigits 13 rfl) rfl ?_
      refine r_iload_n (zdk oS_writeDigits 14 rfl) rfl rfl ?_
      refine r_callV3i (M' := mS_digit) (zdk oS_writeDigits 15 rfl) lM_S_91 vS_digit rfl rfl (Nat.le_of_ble_eq_true rfl) rfl (hd p (zwd h pl D p) (by omega) g) ?_
      refine r_iast (zdk oS_writeDigits 16 rfl) rfl (vp_in_nI (n := pl + p) (by omega) (by decide)) ?_
      first | refine r_iinc (zdk oS_writeDigits 17 rfl) rfl (zinc _) rfl ?_ | refine r_iinc (zdk oS_writeDigits 17 rfl) rfl rfl rfl ?_
      refine r_goto (tgt := 3) (zdk oS_writeDigits 18 rfl) (by decide) ?_
      rw [nI_clamp (n := pl + p) (by omega), zwd_s]
      exact ih (p + 1) (by omega)
  refine zmet (by decide +kernel) (Nat.le_of_ble_eq_true rfl) ?_
  refine r_iconst (v := 0) (zdk oS_writeDigits 0 rfl) (by decide) ?_
  refine r_istore (zdk oS_writeDigits 1 rfl) (Nat.le_of_ble_eq_true rfl) rfl ?_
  have l0 := loop np 0 (by omega)
  rw [show zwd h pl D 0 = h from Prod.ext (funext (fun a => funext (fun j => if_neg (by omega)))) rfl] at l0
  exact l0
def zTolC (h : zH) (pa : Nat → Int32) (co : Nat → Nat) (np i c R : Nat) (h' : zH) : Prop := h'.1 14 1 = nI R ∧ h'.1 14 2 = nI (np * (R + 1)) ∧ zPath np pa co i c R (h'.1 15) ∧ (∀ a j, ¬ (a = 14 ∧ (j = 1 ∨ j = 2)) → a ≠ 15 → h'.1 a j = h.1 a j) ∧ h'.2 = h.2
theorem spS_writePath (d : Nat) (h : zH) (pa : Nat → Int32) (co : Nat → Nat) (np i c R : Nat) (hn : h.1 14 13 = nI np) (n1 : 1 ≤ np) (n3 : np ≤ 3) (hR : R ≤ 5) (hw : ∀ k, k < R → ∃ q, q < 200 ∧ (wI pa co i c k).1 = nI q ∧ h.1 22 q = pa q ∧ h.1 23 q = nI (co q)) (hc : ∀ k, k ≤ R → (wI pa co i c k).2 < 512) (hc0 : (wI pa co i c R).2 < 64) :
    zSP (d + 2) 0 0 mS_writePath [.inr (.inr 14), .inl (nI i), .inl (nI c), .inl (nI R)] h (fun r h' => r = .inl none ∧ zTolC h pa co np i c R h') := by
  suffices main : ∀ K : zR → zH → Prop, (∀ h', zTolC h pa co np i c R h' → K (.inl none) h') → zSP (d + 2) 0 0 mS_writePath [.inr (.inr 14), .inl (nI i), .inl (nI c), .inl (nI R)] h K from main _ (fun h' q => ⟨rfl, q⟩)
  intro K hK
  have outer : ∀ (r k : Nat) (H : zH), r + k = R → H.1 14 1 = nI R → H.1 14 2 = nI (np * (R + 1)) → (∀ r' p, r < r' → r' ≤ R → p < np → H.1 15 (np * r' + p) = nI (xSt np (wI pa co i c (R - r')).2 p)) → (∀ a j, ¬ (a = 14 ∧ (j = 1 ∨ j = 2)) → a ≠ 15 → H.1 a j = h.1 a j) → H.2 = h.2 →
      zMC false (d + 2) 0 0 0 0 mS_writePath K 26 [some (.inr (.inr 14)), some (.inl (nI i)), some (.inl (nI c)), some (.inl (nI R)), some (.inl (wI pa co i c k).1), some (.inl (nI (wI pa co i c k).2)), some (.inl (nI r))] [] H := by
    intro r
    induction r with
    | zero =>
      intro k H hr e1 e2 e3 ho hl
      have e : k = R := by omega
      subst e
      have en : H.1 14 13 = nI np := by rw [ho 14 13 (by omega) (by decide), hn]
      refine r_iload (zdk oS_writePath 17 rfl) rfl ?_
      refine r_if_le (tgt := 72) (zdk oS_writePath 18 rfl) (by decide) (fun _ => ?_) (fun q9 => absurd ((nI_z (x := 0) rfl)) q9)
      refine r_aload_n (zdk oS_writePath 40 rfl) rfl rfl ?_
      refine r_iload (zdk oS_writePath 41 rfl) rfl ?_
      refine r_iconst (v := 0) (zdk oS_writePath 42 rfl) (by decide) ?_
      refine r_iconst (v := 2) (zdk oS_writePath 43 rfl) (by decide) ?_
      refine r_callV3v (M' := mS_writeDigits) (zdk oS_writePath 44 rfl) lM_S_170 vS_writeDigits rfl rfl (Nat.le_of_ble_eq_true rfl) rfl (spS_writeDigits d H np 0 (nI (wI pa co i c k).2) 2 (xQ np (wI pa co i c k).2) en n3 (by omega) (fun p H' hp hH => spS_digit2 d H' np _ p hH n3 hc0 hp)) ?_
      refine r_vret (zdk oS_writePath 45 rfl) rfl ?_
      refine hK _ ⟨?_, ?_, ⟨?_, ?_⟩, ?_, hl⟩
      · rw [zwd1, if_neg (by omega), e1]
      · rw [zwd1, if_neg (by omega), e2]
      · intro r p r1 r2 hp
        have := xnp_le (p := p) n1 n3 r1
        rw [zwd1, if_neg (by omega)]; exact e3 r p (by omega) r2 hp
      · intro p hp
        rw [zwd1, if_pos (by omega)]
        rfl
      · intro a j c1 c2
        rw [zwd1, if_neg (fun z => c2 z.1)]; exact ho a j c1 c2
    | succ r ih =>
      intro k H hr e1 e2 e3 ho hl
      obtain ⟨q, q1, q2, q3, q4⟩ := hw k (by omega)
      have hb := hc k (by omega)
      have en : H.1 14 13 = nI np := by rw [ho 14 13 (by omega) (by decide), hn]
      have eq : ((wI pa co i c k).1).toNatClampNeg = q := by rw [q2, nI_clamp (by omega)]
      have w1 : (wI pa co i c (k + 1)).1 = pa q := by show pa _ = _; rw [eq]
      have w2 : (wI pa co i c (k + 1)).2 = co q := by show co _ = _; rw [eq]
      have hx := xnp_lt (np := np) (r := r + 1) (p := np - 1) n3 (by omega) (by omega)
      refine r_iload (zdk oS_writePath 17 rfl) rfl ?_
      refine r_if_le (tgt := 72) (zdk oS_writePath 18 rfl) (by decide) (fun q9 => absurd q9 ((nI_nz (x := r + 1) (by omega) (by omega)))) (fun _ => ?_)
      refine r_aload_n (zdk oS_writePath 19 rfl) rfl rfl ?_
      refine r_iload (zdk oS_writePath 20 rfl) rfl ?_
      refine r_aload_n (zdk oS_writePath 21 rfl) rfl rfl ?_
      refine r_geti (kf := 13) (zdk oS_writePath 22 rfl) rfl rfl (by decide) lF_S_47 rfl ?_
      rw [en]
      refine r_iload (zdk oS_writePath 23 rfl) rfl ?_
      refine r_imul (zdk oS_writePath 24 rfl) ?_
      refine r_tp (pk_mul np (r + 1)) ?_
      refine r_aload_n (zdk oS_writePath 25 rfl) rfl rfl ?_
      refine r_geti (kf := 13) (zdk oS_writePath 26 rfl) rfl rfl (by decide) lF_S_47 rfl ?_
      rw [en]
      refine r_callV3v (M' := mS_writeDigits) (zdk oS_writePath 27 rfl) lM_S_170 vS_writeDigits rfl rfl (Nat.le_of_ble_eq_true rfl) rfl (spS_writeDigits d H np (np * (r + 1)) (nI (wI pa co i c k).2) (nI np) (xSt np (wI pa co i c k).2) en n3 (by omega) (fun p H' hp hH => spS_digit d H' np _ p hH n3 hb hp)) ?_
      have g : ∀ a j, a ≠ 15 → (zwd H (np * (r + 1)) (xSt np (wI pa co i c k).2) np).1 a j = H.1 a j := fun a j ha => by rw [zwd1, if_neg (fun z => ha z.1)]
      rw [q2]
      refine r_aload_n (zdk oS_writePath 28 rfl) rfl rfl ?_
      refine r_getr (kf := 8) (zdk oS_writePath 29 rfl) rfl rfl (by decide) lF_S_32 rfl ?_
      refine r_iload (zdk oS_writePath 30 rfl) rfl ?_
      refine r_iald (zdk oS_writePath 31 rfl) rfl (vp_in_nI (n := q) (by omega) (by decide)) ?_
      refine r_istore (zdk oS_writePath 32 rfl) (Nat.le_of_ble_eq_true rfl) rfl ?_
      refine r_aload_n (zdk oS_writePath 33 rfl) rfl rfl ?_
      refine r_getr (kf := 7) (zdk oS_writePath 34 rfl) rfl rfl (by decide) lF_S_29 rfl ?_
      refine r_iload (zdk oS_writePath 35 rfl) rfl ?_
      refine r_iald (zdk oS_writePath 36 rfl) rfl (vp_in_nI (n := q) (by omega) (by decide)) ?_
      refine r_istore (zdk oS_writePath 37 rfl) (Nat.le_of_ble_eq_true rfl) rfl ?_
      rw [nI_clamp (n := q) (by omega), g 22 q (by decide), g 23 q (by decide), ho 22 q (by omega) (by decide), q3, ho 23 q (by omega) (by decide), q4, ← w1, ← w2]
      refine r_iinc (zdk oS_writePath 38 rfl) rfl (zdec r) rfl ?_
      refine r_goto (tgt := 26) (zdk oS_writePath 39 rfl) (by decide) ?_
      refine ih (k + 1) _ (by omega) ?_ ?_ ?_ ?_ hl
      · rw [g 14 1 (by decide), e1]
      · rw [g 14 2 (by decide), e2]
      · intro r' p' h1 h2 hp'
        by_cases e : r' = r + 1
        · subst e
          rw [zwd1, if_pos (by omega), Nat.add_sub_cancel_left, show R - (r + 1) = k by omega]
        · rw [zwd1, if_neg (fun z => by
            have hm : np * (r + 1) + np ≤ np * r' := by
              have := Nat.mul_le_mul_left np (show r + 1 + 1 ≤ r' by omega)
              rw [Nat.mul_succ] at this
              exact this
            omega)]
          exact e3 r' p' (by omega) h2 hp'
      · intro a j c1 c2
        rw [g a j c2]; exact ho a j c1 c2
  refine zmet (by decide +kernel) (Nat.le_of_ble_eq_true rfl) ?_
  refine r_aload_n (zdk oS_writePath 0 rfl) rfl rfl ?_
  refine r_iload_n (zdk oS_writePath 1 rfl) rfl rfl ?_
  refine r_puti (kf := 1) (zdk oS_writePath 2 rfl) rfl rfl (by decide) lF_S_15 rfl rfl (by decide +kernel) (Or.inl rfl) ?_
  refine r_aload_n (zdk oS_writePath 3 rfl) rfl rfl ?_
  refine r_aload_n (zdk oS_writePath 4 rfl) rfl rfl ?_
  refine r_geti (kf := 13) (zdk oS_writePath 5 rfl) rfl rfl (by decide) lF_S_47 rfl ?_
  rw [show (zput h 14 1 (nI R)).1 14 13 = nI np by rw [zp1, if_neg (by omega), hn]]
  refine r_iload_n (zdk oS_writePath 6 rfl) rfl rfl ?_
  refine r_iconst (v := 1) (zdk oS_writePath 7 rfl) (by decide) ?_
  refine r_iadd (zdk oS_writePath 8 rfl) ?_
  refine r_tp (nI_1 R) ?_
  refine r_imul (zdk oS_writePath 9 rfl) ?_
  refine r_tp (pk_mul np (R + 1)) ?_
  refine r_puti (kf := 2) (zdk oS_writePath 10 rfl) rfl rfl (by decide) lF_S_18 rfl rfl (by decide +kernel) (Or.inl rfl) ?_
  refine r_iload_n (zdk oS_writePath 11 rfl) rfl rfl ?_
  refine r_istore (zdk oS_writePath 12 rfl) (Nat.le_of_ble_eq_true rfl) rfl ?_
  refine r_iload_n (zdk oS_writePath 13 rfl) rfl rfl ?_
  refine r_istore (zdk oS_writePath 14 rfl) (Nat.le_of_ble_eq_true rfl) rfl ?_
  refine r_iload_n (zdk oS_writePath 15 rfl) rfl rfl ?_
  refine r_istore (zdk oS_writePath 16 rfl) (Nat.le_of_ble_eq_true rfl) rfl ?_
  refine outer R 0 _ (by omega) ?_ ?_ (fun r' p h1 h2 => by omega) ?_ rfl
  · simp [zp1]
  · simp [zp1]
  · intro a j c1 c2
    simp only [zp1]
    rw [if_neg (by omega), if_neg (by omega)]
