/-! the program of words: RoundLab$Program -/
theorem zput_zput {h : zH} {q k : Nat} {a b : Int32} : zput (zput h q k a) q k b = zput h q k b := by
  unfold zput
  simp only [Prod.mk.injEq, and_true]
  funext p
  by_cases hp : p = q
  · simp only [hp, if_true]
    funext j
    simp only [upd]
    split <;> rfl
  · simp only [hp, if_false]
theorem zput_same {h : zH} {q k : Nat} {a : Int32} (e : h.1 q k = a) : zput h q k a = h := by
  unfold zput
  refine Prod.ext ?_ rfl
  funext p
  by_cases hp : p = q
  · subst hp
    simp only [if_true]
    funext j
    simp only [upd]
    split
    · rename_i hj; rw [hj, e]
    · rfl
  · simp only [hp, if_false]
theorem zput_comm {h : zH} {q k q' k' : Nat} {a b : Int32} (hne : q ≠ q' ∨ k ≠ k') : zput (zput h q k a) q' k' b = zput (zput h q' k' b) q k a := by
  refine Prod.ext ?_ rfl
  funext p j
  simp only [zp1]
  by_cases h1 : p = q' ∧ j = k' <;> by_cases h2 : p = q ∧ j = k <;> simp only [h1, h2, if_true, if_false]
  · exfalso
    obtain ⟨rfl, rfl⟩ := h1
    obtain ⟨rfl, rfl⟩ := h2
    simp at hne
  all_goals simp_all
theorem spP_append (d : Nat) (h : zH) (n : Nat) (w : Int32) (hs : h.1 1 3 = nI n) (hn : n < 400) : zSP d 0 0 mP_append [.inr (.inr 1), .inl w] h (zU (zput (zput (zput h 2 n w) 1 3 (nI (n + 1))) 1 4 0)) := by
  have e1 : (nI n).toNatClampNeg = n := nI_clamp (by omega)
  refine zmet (by decide +kernel) (Nat.le_of_ble_eq_true rfl) ?_
  refine r_aload_n (zdk oP_append 0 rfl) rfl rfl ?_
  refine r_getr (kf := 0) (zdk oP_append 1 rfl) rfl rfl (by decide) lF_P_9 rfl ?_
  refine r_aload_n (zdk oP_append 2 rfl) rfl rfl ?_
  refine r_geti (kf := 3) (zdk oP_append 3 rfl) rfl rfl (by decide) lF_P_21 rfl ?_
  rw [hs]
  refine r_iload_n (zdk oP_append 4 rfl) rfl rfl ?_
  refine r_iast (zdk oP_append 5 rfl) rfl (vp_in_nI hn (by decide)) ?_
  refine r_aload_n (zdk oP_append 6 rfl) rfl rfl ?_
  refine r_dup (zdk oP_append 7 rfl) rfl ?_
  refine r_geti (kf := 3) (zdk oP_append 8 rfl) rfl rfl (by decide) lF_P_21 rfl ?_
  refine r_iconst (v := 1) (zdk oP_append 9 rfl) (by decide) ?_
  refine r_iadd (zdk oP_append 10 rfl) ?_
  refine r_puti (kf := 3) (zdk oP_append 11 rfl) rfl rfl (by decide) lF_P_21 rfl rfl (by decide +kernel) (Or.inl rfl) ?_
  refine r_aload_n (zdk oP_append 12 rfl) rfl rfl ?_
  refine r_iconst (v := 0) (zdk oP_append 13 rfl) (by decide) ?_
  refine r_puti (kf := 4) (zdk oP_append 14 rfl) rfl rfl (by decide) lF_P_25 rfl rfl (by decide +kernel) (Or.inr (Or.inl rfl)) ?_
  refine r_vret (zdk oP_append 15 rfl) rfl ?_
  refine zUi ?_
  simp [zp1, hs, e1, nI_1]
theorem spP_removeAll (d : Nat) (h : zH) : zSP d 0 0 mP_removeAll [.inr (.inr 1)] h (zU (zput (zput h 1 3 0) 1 4 0)) := by
  refine zmet (by decide +kernel) (Nat.le_of_ble_eq_true rfl) ?_
  refine r_aload_n (zdk oP_removeAll 0 rfl) rfl rfl ?_
  refine r_iconst (v := 0) (zdk oP_removeAll 1 rfl) (by decide) ?_
  refine r_puti (kf := 3) (zdk oP_removeAll 2 rfl) rfl rfl (by decide) lF_P_21 rfl rfl (by decide +kernel) (Or.inl rfl) ?_
  refine r_aload_n (zdk oP_removeAll 3 rfl) rfl rfl ?_
  refine r_iconst (v := 0) (zdk oP_removeAll 4 rfl) (by decide) ?_
  refine r_puti (kf := 4) (zdk oP_removeAll 5 rfl) rfl rfl (by decide) lF_P_25 rfl rfl (by decide +kernel) (Or.inr (Or.inl rfl)) ?_
  refine r_vret (zdk oP_removeAll 6 rfl) rfl ?_
  exact zUi rfl
theorem spP_range (d : Nat) (h : zH) (v : Nat) (hv : 2 + v < 400) : zSP d 0 0 mP_range [.inr (.inr 1), .inl (nI v)] h (zI (h.1 2 (2 + v)) h) := by
  have e1 : (nI (2 + v)).toNatClampNeg = 2 + v := nI_clamp (by omega)
  refine zmet (by decide +kernel) (Nat.le_of_ble_eq_true rfl) ?_
  refine r_aload_n (zdk oP_range 0 rfl) rfl rfl ?_
  refine r_getr (kf := 0) (zdk oP_range 1 rfl) rfl rfl (by decide) lF_P_9 rfl ?_
  refine r_iconst (v := 2) (zdk oP_range 2 rfl) (by decide) ?_
  refine r_iload_n (zdk oP_range 3 rfl) rfl rfl ?_
  refine r_iadd (zdk oP_range 4 rfl) ?_
  refine r_tp (nI_add 2 v) ?_
  refine r_iald (zdk oP_range 5 rfl) rfl (vp_in_nI hv (by decide)) ?_
  refine r_iret (zdk oP_range 6 rfl) rfl ?_
  exact zIi (by rw [e1])
theorem spP_expressionFor (d : Nat) (h : zH) (ph pt : Int32) : zSP d 0 0 mP_expressionFor [.inr (.inr 1), .inl ph, .inl pt] h (zI (ph * (h.1 1 6 + 1) + 1 + pt) h) := by
  refine zmet (by decide +kernel) (Nat.le_of_ble_eq_true rfl) ?_
  refine r_iload_n (zdk oP_expressionFor 0 rfl) rfl rfl ?_
  refine r_aload_n (zdk oP_expressionFor 1 rfl) rfl rfl ?_
  refine r_geti (kf := 6) (zdk oP_expressionFor 2 rfl) rfl rfl (by decide) lF_P_32 rfl ?_
  refine r_iconst (v := 1) (zdk oP_expressionFor 3 rfl) (by decide) ?_
  refine r_iadd (zdk oP_expressionFor 4 rfl) ?_
  refine r_imul (zdk oP_expressionFor 5 rfl) ?_
  refine r_iconst (v := 1) (zdk oP_expressionFor 6 rfl) (by decide) ?_
  refine r_iadd (zdk oP_expressionFor 7 rfl) ?_
  refine r_iload_n (zdk oP_expressionFor 8 rfl) rfl rfl ?_
  refine r_iadd (zdk oP_expressionFor 9 rfl) ?_
  refine r_iret (zdk oP_expressionFor 10 rfl) rfl ?_
  exact zIi rfl
/-- a number at a place, within bounds -/
def fIn (W : Nat → Int32) (n p : Nat) (l g : Int32) : Bool := decide (p < n ∧ ¬ W p < l ∧ ¬ g < W p)
def fRNv (h : zH) (n p : Nat) (l g : Int32) : Int32 := if h.1 1 7 = -1 ∧ fIn (h.1 2) n p l g = true then h.1 2 p else l
def fRNh (h : zH) (n p : Nat) (l g : Int32) : zH := if h.1 1 7 = -1 ∧ fIn (h.1 2) n p l g = false then zput h 1 7 (nI p) else h
theorem spP_readNumber (d : Nat) (h : zH) (n p : Nat) (l g : Int32) (hs : h.1 1 3 = nI n) (hn : n ≤ 400) (hp : p < 2 ^ 31) : zSP d 0 0 mP_readNumber [.inr (.inr 1), .inl (nI p), .inl l, .inl g] h (zI (fRNv h n p l g) (fRNh h n p l g)) := by
  have ep : (nI p).toNatClampNeg = p := nI_clamp hp
  have en : h.1 1 3 ≤ nI p ↔ n ≤ p := by rw [hs]; exact nI_leI (by omega) hp
  have hb : p < n → vp_in (nI p) 400 := fun q => vp_in_nI (by omega) (by decide)
  refine zmet (by decide +kernel) (Nat.le_of_ble_eq_true rfl) ?_
  refine r_aload_n (zdk oP_readNumber 0 rfl) rfl rfl ?_
  refine r_geti (kf := 7) (zdk oP_readNumber 1 rfl) rfl rfl (by decide) lF_P_35 rfl ?_
  refine r_iconst (v := -1) (zdk oP_readNumber 2 rfl) (by decide) ?_
  refine r_icmp_eq (tgt := 10) (zdk oP_readNumber 3 rfl) (by decide) (fun hc0 => ?_) (fun hc0 => ?_)
  · refine r_iload_n (zdk oP_readNumber 6 rfl) rfl rfl ?_
    refine r_aload_n (zdk oP_readNumber 7 rfl) rfl rfl ?_
    refine r_geti (kf := 3) (zdk oP_readNumber 8 rfl) rfl rfl (by decide) lF_P_21 rfl ?_
    refine r_icmp_ge (tgt := 38) (zdk oP_readNumber 9 rfl) (by decide) (fun hc1 => ?_) (fun hc1 => ?_)
    · refine r_aload_n (zdk oP_readNumber 22 rfl) rfl rfl ?_
      refine r_iload_n (zdk oP_readNumber 23 rfl) rfl rfl ?_
      refine r_puti (kf := 7) (zdk oP_readNumber 24 rfl) rfl rfl (by decide) lF_P_35 rfl rfl (by decide +kernel) (Or.inl rfl) ?_
      refine r_iload_n (zdk oP_readNumber 25 rfl) rfl rfl ?_
      refine r_iret (zdk oP_readNumber 26 rfl) rfl ?_
      simp only [ep, en, Nat.not_le] at *
      refine zIh ?_ ?_ <;> simp_all [fRNv, fRNh, fIn] <;> omega
    · refine r_aload_n (zdk oP_readNumber 10 rfl) rfl rfl ?_
      refine r_getr (kf := 0) (zdk oP_readNumber 11 rfl) rfl rfl (by decide) lF_P_9 rfl ?_
      refine r_iload_n (zdk oP_readNumber 12 rfl) rfl rfl ?_
      refine r_iald (zdk oP_readNumber 13 rfl) rfl (hb (Nat.not_le.mp (fun q9 => hc1 (en.mpr q9)))) ?_
      refine r_iload_n (zdk oP_readNumber 14 rfl) rfl rfl ?_
      refine r_icmp_lt (tgt := 38) (zdk oP_readNumber 15 rfl) (by decide) (fun hc2 => ?_) (fun hc2 => ?_)
      · refine r_aload_n (zdk oP_readNumber 22 rfl) rfl rfl ?_
        refine r_iload_n (zdk oP_readNumber 23 rfl) rfl rfl ?_
        refine r_puti (kf := 7) (zdk oP_readNumber 24 rfl) rfl rfl (by decide) lF_P_35 rfl rfl (by decide +kernel) (Or.inl rfl) ?_
        refine r_iload_n (zdk oP_readNumber 25 rfl) rfl rfl ?_
        refine r_iret (zdk oP_readNumber 26 rfl) rfl ?_
        simp only [ep, en, Nat.not_le] at *
        refine zIh ?_ ?_ <;> simp_all [fRNv, fRNh, fIn] <;> omega
      · refine r_aload_n (zdk oP_readNumber 16 rfl) rfl rfl ?_
        refine r_getr (kf := 0) (zdk oP_readNumber 17 rfl) rfl rfl (by decide) lF_P_9 rfl ?_
        refine r_iload_n (zdk oP_readNumber 18 rfl) rfl rfl ?_
        refine r_iald (zdk oP_readNumber 19 rfl) rfl (hb (Nat.not_le.mp (fun q9 => hc1 (en.mpr q9)))) ?_
        refine r_iload_n (zdk oP_readNumber 20 rfl) rfl rfl ?_
        refine r_icmp_le (tgt := 45) (zdk oP_readNumber 21 rfl) (by decide) (fun hc3 => ?_) (fun hc3 => ?_)
        · refine r_aload_n (zdk oP_readNumber 27 rfl) rfl rfl ?_
          refine r_getr (kf := 0) (zdk oP_readNumber 28 rfl) rfl rfl (by decide) lF_P_9 rfl ?_
          refine r_iload_n (zdk oP_readNumber 29 rfl) rfl rfl ?_
          refine r_iald (zdk oP_readNumber 30 rfl) rfl (hb (Nat.not_le.mp (fun q9 => hc1 (en.mpr q9)))) ?_
          refine r_iret (zdk oP_readNumber 31 rfl) rfl ?_
          simp only [ep, en, Nat.not_le] at *
          refine zIh ?_ ?_ <;> simp_all [fRNv, fRNh, fIn] <;> omega
        · refine r_aload_n (zdk oP_readNumber 22 rfl) rfl rfl ?_
          refine r_iload_n (zdk oP_readNumber 23 rfl) rfl rfl ?_
          refine r_puti (kf := 7) (zdk oP_readNumber 24 rfl) rfl rfl (by decide) lF_P_35 rfl rfl (by decide +kernel) (Or.inl rfl) ?_
          refine r_iload_n (zdk oP_readNumber 25 rfl) rfl rfl ?_
          refine r_iret (zdk oP_readNumber 26 rfl) rfl ?_
          simp only [ep, en, Nat.not_le] at *
          refine zIh ?_ ?_ <;> simp_all [fRNv, fRNh, fIn] <;> omega
  · refine r_iload_n (zdk oP_readNumber 4 rfl) rfl rfl ?_
    refine r_iret (zdk oP_readNumber 5 rfl) rfl ?_
    simp only [ep, en, Nat.not_le] at *
    refine zIh ?_ ?_ <;> simp_all [fRNv, fRNh, fIn] <;> omega
