/-! the reference's tables -/
def zAp (h : zH) (m : Nat) (ws : List Int32) (h' : zH) : Prop := h'.1 27 1 = nI (m + ws.length) ∧ (∀ i, i < ws.length → h'.1 28 (m + i) = ws.getD i 0) ∧ (∀ a j, ¬ (a = 27 ∧ j = 1) → ¬ (a = 28 ∧ m ≤ j ∧ j < m + ws.length) → h'.1 a j = h.1 a j) ∧ h'.2 = h.2
theorem zAp.nil {h : zH} {m : Nat} (e : h.1 27 1 = nI m) : zAp h m [] h := ⟨e, fun i hi => absurd hi (Nat.not_lt_zero i), fun _ _ _ _ => rfl, rfl⟩
theorem zAp.comp {h h1 h2 : zH} {m k : Nat} {ws vs : List Int32} (a : zAp h m ws h1) (b : zAp h1 k vs h2) (hk : k = m + ws.length) : zAp h m (ws ++ vs) h2 := by
  subst hk
  obtain ⟨a1, a2, a3, a4⟩ := a
  obtain ⟨b1, b2, b3, b4⟩ := b
  refine ⟨by rw [b1, List.length_append, Nat.add_assoc], ?_, ?_, by rw [b4, a4]⟩
  · intro i hi
    rw [List.length_append] at hi
    by_cases q : i < ws.length
    · rw [b3 28 (m + i) (by omega) (by omega), a2 i q]
      simp [List.getD, List.getElem?_append_left q]
    · have e := b2 (i - ws.length) (by omega)
      rw [show m + ws.length + (i - ws.length) = m + i by omega] at e
      rw [e]
      simp [List.getD, List.getElem?_append_right (Nat.le_of_not_lt q)]
  · intro x j c1 c2
    rw [List.length_append] at c2
    rw [b3 x j c1 (by omega)]; exact a3 x j c1 (by omega)
theorem spM_two (d : Nat) (h : zH) (m : Nat) (a b : Int32) (hm : h.1 27 1 = nI m) (h4 : m + 2 ≤ 400) : zSP d 0 0 mM_two [.inr (.inr 27), .inl a, .inl b] h (fun r h' => r = .inl none ∧ zAp h m [a, b] h') := by
  refine zmet (by decide +kernel) (Nat.le_of_ble_eq_true rfl) ?_
  refine r_aload_n (zdk oM_two 0 rfl) rfl rfl ?_
  refine r_getr (kf := 2) (zdk oM_two 1 rfl) rfl rfl (by decide) lF_M_7 rfl ?_
  refine r_aload_n (zdk oM_two 2 rfl) rfl rfl ?_
  refine r_geti (kf := 1) (zdk oM_two 3 rfl) rfl rfl (by decide) lF_M_82 rfl ?_
  rw [hm]
  refine r_iload_n (zdk oM_two 4 rfl) rfl rfl ?_
  refine r_iast (zdk oM_two 5 rfl) rfl (vp_in_nI (n := m) (by omega) (by decide)) ?_
  refine r_aload_n (zdk oM_two 6 rfl) rfl rfl ?_
  refine r_getr (kf := 2) (zdk oM_two 7 rfl) rfl rfl (by decide) lF_M_7 rfl ?_
  refine r_aload_n (zdk oM_two 8 rfl) rfl rfl ?_
  refine r_geti (kf := 1) (zdk oM_two 9 rfl) rfl rfl (by decide) lF_M_82 rfl ?_
  rw [nI_clamp (n := m) (by omega), show (zput h 28 m a).1 27 1 = nI m by rw [zp1, if_neg (by omega), hm]]
  refine r_iconst (v := 1) (zdk oM_two 10 rfl) (by decide) ?_
  refine r_iadd (zdk oM_two 11 rfl) ?_
  refine r_tp (nI_1 m) ?_
  refine r_iload_n (zdk oM_two 12 rfl) rfl rfl ?_
  refine r_iast (zdk oM_two 13 rfl) rfl (vp_in_nI (n := m + 1) (by omega) (by decide)) ?_
  refine r_aload_n (zdk oM_two 14 rfl) rfl rfl ?_
  refine r_aload_n (zdk oM_two 15 rfl) rfl rfl ?_
  refine r_geti (kf := 1) (zdk oM_two 16 rfl) rfl rfl (by decide) lF_M_82 rfl ?_
  rw [nI_clamp (n := m + 1) (by omega), show (zput (zput h 28 m a) 28 (m + 1) b).1 27 1 = nI m by rw [zp1, if_neg (by omega), zp1, if_neg (by omega), hm]]
  refine r_iconst (v := 2) (zdk oM_two 17 rfl) (by decide) ?_
  refine r_iadd (zdk oM_two 18 rfl) ?_
  refine r_tp (show nI m + 2 = nI (m + 2) from nI_add m 2) ?_
  refine r_puti (kf := 1) (zdk oM_two 19 rfl) rfl rfl (by decide) lF_M_82 rfl rfl (by decide +kernel) (Or.inl rfl) ?_
  refine r_vret (zdk oM_two 20 rfl) rfl ?_
  refine ⟨rfl, by simp [zp1], ?_, ?_, rfl⟩
  · intro i hi
    rcases i with _ | _ | i
    · simp [zp1]
    · simp [zp1]
    · exact absurd hi (by simp)
  · intro x j c1 c2
    simp only [List.length_cons, List.length_nil] at c2
    rw [zp1, if_neg (by omega), zp1, if_neg (by omega), zp1, if_neg (by omega)]
theorem spM_four (d : Nat) (h : zH) (m : Nat) (a b c e : Int32) (hm : h.1 27 1 = nI m) (h4 : m + 4 ≤ 400) : zSP (d + 1) 0 0 mM_four [.inr (.inr 27), .inl a, .inl b, .inl c, .inl e] h (fun r h' => r = .inl none ∧ zAp h m [a, b, c, e] h') := by
  refine zmet (by decide +kernel) (Nat.le_of_ble_eq_true rfl) ?_
  refine r_aload_n (zdk oM_four 0 rfl) rfl rfl ?_
  refine r_iload_n (zdk oM_four 1 rfl) rfl rfl ?_
  refine r_iload_n (zdk oM_four 2 rfl) rfl rfl ?_
  refine r_callV2 (M' := mM_two) (zdk oM_four 3 rfl) lM_M_92 vM_two rfl rfl (Nat.le_of_ble_eq_true rfl) rfl (spM_two d h m a b hm (by omega)) ?_
  intro r1 h1 q1
  obtain ⟨e1, q1⟩ := q1
  cases e1
  refine r_aload_n (zdk oM_four 4 rfl) rfl rfl ?_
  refine r_iload_n (zdk oM_four 5 rfl) rfl rfl ?_
  refine r_iload (zdk oM_four 6 rfl) rfl ?_
  refine r_callV2 (M' := mM_two) (zdk oM_four 7 rfl) lM_M_92 vM_two rfl rfl (Nat.le_of_ble_eq_true rfl) rfl (spM_two d h1 (m + 2) c e q1.1 (by omega)) ?_
  intro r2 h2 q2
  obtain ⟨e2, q2⟩ := q2
  cases e2
  refine r_vret (zdk oM_four 8 rfl) rfl ?_
  exact ⟨rfl, q1.comp q2 rfl⟩
def wT1 : List Int32 := [1, 2, 4, 3, 101, 30, 100, 100, 30, 26, 20, 32, 32, 20, 39, 20, 39, 39, 20, 38, 1, 0, 30, 26, 20, 32, 32, 20, 35, 20, 35, 35, 38, 101]
theorem spM_oneThird (d : Nat) (h : zH) (hm : h.1 27 1 = nI 0) : zSP (d + 2) 0 0 mM_oneThird [.inr (.inr 27)] h (fun r h' => r = .inl none ∧ zAp h 0 wT1 h') := by
  refine zmet (by decide +kernel) (Nat.le_of_ble_eq_true rfl) ?_
  refine r_aload_n (zdk oM_oneThird 0 rfl) rfl rfl ?_
  refine r_iconst (v := 1) (zdk oM_oneThird 1 rfl) (by decide) ?_
  refine r_iconst (v := 2) (zdk oM_oneThird 2 rfl) (by decide) ?_
  refine r_iconst (v := 4) (zdk oM_oneThird 3 rfl) (by decide) ?_
  refine r_iconst (v := 3) (zdk oM_oneThird 4 rfl) (by decide) ?_
  refine r_callV4 (M' := mM_four) (zdk oM_oneThird 5 rfl) lM_M_96 vM_four rfl rfl (Nat.le_of_ble_eq_true rfl) rfl (spM_four d h 0 1 2 4 3 hm (by decide)) ?_
  intro r1 h1 p1
  obtain ⟨e1, p1⟩ := p1
  cases e1
  have q1 := p1
  refine r_aload_n (zdk oM_oneThird 6 rfl) rfl rfl ?_
  refine r_bipush (v := 101) (zdk oM_oneThird 7 rfl) (by decide) ?_
  refine r_bipush (v := 30) (zdk oM_oneThird 8 rfl) (by decide) ?_
  refine r_bipush (v := 100) (zdk oM_oneThird 9 rfl) (by decide) ?_
  refine r_bipush (v := 100) (zdk oM_oneThird 10 rfl) (by decide) ?_
  refine r_callV4 (M' := mM_four) (zdk oM_oneThird 11 rfl) lM_M_96 vM_four rfl rfl (Nat.le_of_ble_eq_true rfl) rfl (spM_four d h1 4 101 30 100 100 q1.1 (by decide)) ?_
  intro r2 h2 p2
  obtain ⟨e2, p2⟩ := p2
  cases e2
  have q2 := q1.comp p2 rfl
  refine r_aload_n (zdk oM_oneThird 12 rfl) rfl rfl ?_
  refine r_bipush (v := 30) (zdk oM_oneThird 13 rfl) (by decide) ?_
  refine r_bipush (v := 26) (zdk oM_oneThird 14 rfl) (by decide) ?_
  refine r_bipush (v := 20) (zdk oM_oneThird 15 rfl) (by decide) ?_
  refine r_bipush (v := 32) (zdk oM_oneThird 16 rfl) (by decide) ?_
  refine r_callV4 (M' := mM_four) (zdk oM_oneThird 17 rfl) lM_M_96 vM_four rfl rfl (Nat.le_of_ble_eq_true rfl) rfl (spM_four d h2 8 30 26 20 32 q2.1 (by decide)) ?_
  intro r3 h3 p3
  obtain ⟨e3, p3⟩ := p3
  cases e3
  have q3 := q2.comp p3 rfl
  refine r_aload_n (zdk oM_oneThird 18 rfl) rfl rfl ?_
  refine r_bipush (v := 32) (zdk oM_oneThird 19 rfl) (by decide) ?_
  refine r_bipush (v := 20) (zdk oM_oneThird 20 rfl) (by decide) ?_
  refine r_bipush (v := 39) (zdk oM_oneThird 21 rfl) (by decide) ?_
  refine r_bipush (v := 20) (zdk oM_oneThird 22 rfl) (by decide) ?_
  refine r_callV4 (M' := mM_four) (zdk oM_oneThird 23 rfl) lM_M_96 vM_four rfl rfl (Nat.le_of_ble_eq_true rfl) rfl (spM_four d h3 12 32 20 39 20 q3.1 (by decide)) ?_
  intro r4 h4 p4
  obtain ⟨e4, p4⟩ := p4
  cases e4
  have q4 := q3.comp p4 rfl
  refine r_aload_n (zdk oM_oneThird 24 rfl) rfl rfl ?_
  refine r_bipush (v := 39) (zdk oM_oneThird 25 rfl) (by decide) ?_
  refine r_bipush (v := 39) (zdk oM_oneThird 26 rfl) (by decide) ?_
  refine r_bipush (v := 20) (zdk oM_oneThird 27 rfl) (by decide) ?_
  refine r_bipush (v := 38) (zdk oM_oneThird 28 rfl) (by decide) ?_
  refine r_callV4 (M' := mM_four) (zdk oM_oneThird 29 rfl) lM_M_96 vM_four rfl rfl (Nat.le_of_ble_eq_true rfl) rfl (spM_four d h4 16 39 39 20 38 q4.1 (by decide)) ?_
  intro r5 h5 p5
  obtain ⟨e5, p5⟩ := p5
  cases e5
  have q5 := q4.comp p5 rfl
  refine r_aload_n (zdk oM_oneThird 30 rfl) rfl rfl ?_
  refine r_iconst (v := 1) (zdk oM_oneThird 31 rfl) (by decide) ?_
  refine r_iconst (v := 0) (zdk oM_oneThird 32 rfl) (by decide) ?_
  refine r_bipush (v := 30) (zdk oM_oneThird 33 rfl) (by decide) ?_
  refine r_bipush (v := 26) (zdk oM_oneThird 34 rfl) (by decide) ?_
  refine r_callV4 (M' := mM_four) (zdk oM_oneThird 35 rfl) lM_M_96 vM_four rfl rfl (Nat.le_of_ble_eq_true rfl) rfl (spM_four d h5 20 1 0 30 26 q5.1 (by decide)) ?_
  intro r6 h6 p6
  obtain ⟨e6, p6⟩ := p6
  cases e6
  have q6 := q5.comp p6 rfl
  refine r_aload_n (zdk oM_oneThird 36 rfl) rfl rfl ?_
  refine r_bipush (v := 20) (zdk oM_oneThird 37 rfl) (by decide) ?_
  refine r_bipush (v := 32) (zdk oM_oneThird 38 rfl) (by decide) ?_
  refine r_bipush (v := 32) (zdk oM_oneThird 39 rfl) (by decide) ?_
  refine r_bipush (v := 20) (zdk oM_oneThird 40 rfl) (by decide) ?_
  refine r_callV4 (M' := mM_four) (zdk oM_oneThird 41 rfl) lM_M_96 vM_four rfl rfl (Nat.le_of_ble_eq_true rfl) rfl (spM_four d h6 24 20 32 32 20 q6.1 (by decide)) ?_
  intro r7 h7 p7
  obtain ⟨e7, p7⟩ := p7
  cases e7
  have q7 := q6.comp p7 rfl
  refine r_aload_n (zdk oM_oneThird 42 rfl) rfl rfl ?_
  refine r_bipush (v := 35) (zdk oM_oneThird 43 rfl) (by decide) ?_
  refine r_bipush (v := 20) (zdk oM_oneThird 44 rfl) (by decide) ?_
  refine r_bipush (v := 35) (zdk oM_oneThird 45 rfl) (by decide) ?_
  refine r_bipush (v := 35) (zdk oM_oneThird 46 rfl) (by decide) ?_
  refine r_callV4 (M' := mM_four) (zdk oM_oneThird 47 rfl) lM_M_96 vM_four rfl rfl (Nat.le_of_ble_eq_true rfl) rfl (spM_four d h7 28 35 20 35 35 q7.1 (by decide)) ?_
  intro r8 h8 p8
  obtain ⟨e8, p8⟩ := p8
  cases e8
  have q8 := q7.comp p8 rfl
  refine r_aload_n (zdk oM_oneThird 48 rfl) rfl rfl ?_
  refine r_bipush (v := 38) (zdk oM_oneThird 49 rfl) (by decide) ?_
  refine r_bipush (v := 101) (zdk oM_oneThird 50 rfl) (by decide) ?_
  refine r_callV2 (M' := mM_two) (zdk oM_oneThird 51 rfl) lM_M_92 vM_two rfl rfl (Nat.le_of_ble_eq_true rfl) rfl (spM_two (d + 1) h8 32 38 101 q8.1 (by decide)) ?_
  intro r9 h9 p9
  obtain ⟨e9, p9⟩ := p9
  cases e9
  have q9 := q8.comp p9 rfl
  refine r_vret (zdk oM_oneThird 52 rfl) rfl ?_
  exact ⟨rfl, q9⟩
def wT2 : List Int32 := [2, 3, 4, 3, 4, 101, 100, 36, 30, 27, 35, 25, 39, 35, 20, 38, 1, 0, 20, 22, 4, 102, 101, 30, 100, 100, 30, 27, 25, 23, 36, 4, 23, 37, 4, 23, 36, 4, 23, 37, 4, 0, 30, 26, 3, 37, 21, 23, 37, 4, 1, 36, 102]
theorem spM_voting (d : Nat) (h : zH) (hm : h.1 27 1 = nI 0) : zSP (d + 2) 0 0 mM_voting [.inr (.inr 27)] h (fun r h' => r = .inl none ∧ zAp h 0 wT2 h') := by
  refine zmet (by decide +kernel) (Nat.le_of_ble_eq_true rfl) ?_
  refine r_aload_n (zdk oM_voting 0 rfl) rfl rfl ?_
  refine r_iconst (v := 2) (zdk oM_voting 1 rfl) (by decide) ?_
  refine r_iconst (v := 3) (zdk oM_voting 2 rfl) (by decide) ?_
  refine r_iconst (v := 4) (zdk oM_voting 3 rfl) (by decide) ?_
  refine r_iconst (v := 3) (zdk oM_voting 4 rfl) (by decide) ?_
  refine r_callV4 (M' := mM_four) (zdk oM_voting 5 rfl) lM_M_96 vM_four rfl rfl (Nat.le_of_ble_eq_true rfl) rfl (spM_four d h 0 2 3 4 3 hm (by decide)) ?_
  intro r1 h1 p1
  obtain ⟨e1, p1⟩ := p1
  cases e1
  have q1 := p1
  refine r_aload_n (zdk oM_voting 6 rfl) rfl rfl ?_
  refine r_iconst (v := 4) (zdk oM_voting 7 rfl) (by decide) ?_
  refine r_bipush (v := 101) (zdk oM_voting 8 rfl) (by decide) ?_
  refine r_bipush (v := 100) (zdk oM_voting 9 rfl) (by decide) ?_
  refine r_bipush (v := 36) (zdk oM_voting 10 rfl) (by decide) ?_
  refine r_callV4 (M' := mM_four) (zdk oM_voting 11 rfl) lM_M_96 vM_four rfl rfl (Nat.le_of_ble_eq_true rfl) rfl (spM_four d h1 4 4 101 100 36 q1.1 (by decide)) ?_
  intro r2 h2 p2
  obtain ⟨e2, p2⟩ := p2
  cases e2
  have q2 := q1.comp p2 rfl
  refine r_aload_n (zdk oM_voting 12 rfl) rfl rfl ?_
  refine r_bipush (v := 30) (zdk oM_voting 13 rfl) (by decide) ?_
  refine r_bipush (v := 27) (zdk oM_voting 14 rfl) (by decide) ?_
  refine r_bipush (v := 35) (zdk oM_voting 15 rfl) (by decide) ?_
  refine r_bipush (v := 25) (zdk oM_voting 16 rfl) (by decide) ?_
  refine r_callV4 (M' := mM_four) (zdk oM_voting 17 rfl) lM_M_96 vM_four rfl rfl (Nat.le_of_ble_eq_true rfl) rfl (spM_four d h2 8 30 27 35 25 q2.1 (by decide)) ?_
  intro r3 h3 p3
  obtain ⟨e3, p3⟩ := p3
  cases e3
  have q3 := q2.comp p3 rfl
  refine r_aload_n (zdk oM_voting 18 rfl) rfl rfl ?_
  refine r_bipush (v := 39) (zdk oM_voting 19 rfl) (by decide) ?_
  refine r_bipush (v := 35) (zdk oM_voting 20 rfl) (by decide) ?_
  refine r_bipush (v := 20) (zdk oM_voting 21 rfl) (by decide) ?_
  refine r_bipush (v := 38) (zdk oM_voting 22 rfl) (by decide) ?_
  refine r_callV4 (M' := mM_four) (zdk oM_voting 23 rfl) lM_M_96 vM_four rfl rfl (Nat.le_of_ble_eq_true rfl) rfl (spM_four d h3 12 39 35 20 38 q3.1 (by decide)) ?_
  intro r4 h4 p4
  obtain ⟨e4, p4⟩ := p4
  cases e4
  have q4 := q3.comp p4 rfl
  refine r_aload_n (zdk oM_voting 24 rfl) rfl rfl ?_
  refine r_iconst (v := 1) (zdk oM_voting 25 rfl) (by decide) ?_
  refine r_iconst (v := 0) (zdk oM_voting 26 rfl) (by decide) ?_
  refine r_bipush (v := 20) (zdk oM_voting 27 rfl) (by decide) ?_
  refine r_bipush (v := 22) (zdk oM_voting 28 rfl) (by decide) ?_
  refine r_callV4 (M' := mM_four) (zdk oM_voting 29 rfl) lM_M_96 vM_four rfl rfl (Nat.le_of_ble_eq_true rfl) rfl (spM_four d h4 16 1 0 20 22 q4.1 (by decide)) ?_
  intro r5 h5 p5
  obtain ⟨e5, p5⟩ := p5
  cases e5
  have q5 := q4.comp p5 rfl
  refine r_aload_n (zdk oM_voting 30 rfl) rfl rfl ?_
  refine r_iconst (v := 4) (zdk oM_voting 31 rfl) (by decide) ?_
  refine r_bipush (v := 102) (zdk oM_voting 32 rfl) (by decide) ?_
  refine r_bipush (v := 101) (zdk oM_voting 33 rfl) (by decide) ?_
  refine r_bipush (v := 30) (zdk oM_voting 34 rfl) (by decide) ?_
  refine r_callV4 (M' := mM_four) (zdk oM_voting 35 rfl) lM_M_96 vM_four rfl rfl (Nat.le_of_ble_eq_true rfl) rfl (spM_four d h5 20 4 102 101 30 q5.1 (by decide)) ?_
  intro r6 h6 p6
  obtain ⟨e6, p6⟩ := p6
  cases e6
  have q6 := q5.comp p6 rfl
  refine r_aload_n (zdk oM_voting 36 rfl) rfl rfl ?_
  refine r_bipush (v := 100) (zdk oM_voting 37 rfl) (by decide) ?_
  refine r_bipush (v := 100) (zdk oM_voting 38 rfl) (by decide) ?_
  refine r_bipush (v := 30) (zdk oM_voting 39 rfl) (by decide) ?_
  refine r_bipush (v := 27) (zdk oM_voting 40 rfl) (by decide) ?_
  refine r_callV4 (M' := mM_four) (zdk oM_voting 41 rfl) lM_M_96 vM_four rfl rfl (Nat.le_of_ble_eq_true rfl) rfl (spM_four d h6 24 100 100 30 27 q6.1 (by decide)) ?_
  intro r7 h7 p7
  obtain ⟨e7, p7⟩ := p7
  cases e7
  have q7 := q6.comp p7 rfl
  refine r_aload_n (zdk oM_voting 42 rfl) rfl rfl ?_
  refine r_bipush (v := 25) (zdk oM_voting 43 rfl) (by decide) ?_
  refine r_bipush (v := 23) (zdk oM_voting 44 rfl) (by decide) ?_
  refine r_bipush (v := 36) (zdk oM_voting 45 rfl) (by decide) ?_
  refine r_iconst (v := 4) (zdk oM_voting 46 rfl) (by decide) ?_
  refine r_callV4 (M' := mM_four) (zdk oM_voting 47 rfl) lM_M_96 vM_four rfl rfl (Nat.le_of_ble_eq_true rfl) rfl (spM_four d h7 28 25 23 36 4 q7.1 (by decide)) ?_
  intro r8 h8 p8
  obtain ⟨e8, p8⟩ := p8
  cases e8
  have q8 := q7.comp p8 rfl
  refine r_aload_n (zdk oM_voting 48 rfl) rfl rfl ?_
  refine r_bipush (v := 23) (zdk oM_voting 49 rfl) (by decide) ?_
  refine r_bipush (v := 37) (zdk oM_voting 50 rfl) (by decide) ?_
  refine r_iconst (v := 4) (zdk oM_voting 51 rfl) (by decide) ?_
  refine r_bipush (v := 23) (zdk oM_voting 52 rfl) (by decide) ?_
  refine r_callV4 (M' := mM_four) (zdk oM_voting 53 rfl) lM_M_96 vM_four rfl rfl (Nat.le_of_ble_eq_true rfl) rfl (spM_four d h8 32 23 37 4 23 q8.1 (by decide)) ?_
  intro r9 h9 p9
  obtain ⟨e9, p9⟩ := p9
  cases e9
  have q9 := q8.comp p9 rfl
  refine r_aload_n (zdk oM_voting 54 rfl) rfl rfl ?_
  refine r_bipush (v := 36) (zdk oM_voting 55 rfl) (by decide) ?_
  refine r_iconst (v := 4) (zdk oM_voting 56 rfl) (by decide) ?_
  refine r_bipush (v := 23) (zdk oM_voting 57 rfl) (by decide) ?_
  refine r_bipush (v := 37) (zdk oM_voting 58 rfl) (by decide) ?_
  refine r_callV4 (M' := mM_four) (zdk oM_voting 59 rfl) lM_M_96 vM_four rfl rfl (Nat.le_of_ble_eq_true rfl) rfl (spM_four d h9 36 36 4 23 37 q9.1 (by decide)) ?_
  intro r10 h10 p10
  obtain ⟨e10, p10⟩ := p10
  cases e10
  have q10 := q9.comp p10 rfl
  refine r_aload_n (zdk oM_voting 60 rfl) rfl rfl ?_
  refine r_iconst (v := 4) (zdk oM_voting 61 rfl) (by decide) ?_
  refine r_iconst (v := 0) (zdk oM_voting 62 rfl) (by decide) ?_
  refine r_bipush (v := 30) (zdk oM_voting 63 rfl) (by decide) ?_
  refine r_bipush (v := 26) (zdk oM_voting 64 rfl) (by decide) ?_
  refine r_callV4 (M' := mM_four) (zdk oM_voting 65 rfl) lM_M_96 vM_four rfl rfl (Nat.le_of_ble_eq_true rfl) rfl (spM_four d h10 40 4 0 30 26 q10.1 (by decide)) ?_
  intro r11 h11 p11
  obtain ⟨e11, p11⟩ := p11
  cases e11
  have q11 := q10.comp p11 rfl
  refine r_aload_n (zdk oM_voting 66 rfl) rfl rfl ?_
  refine r_iconst (v := 3) (zdk oM_voting 67 rfl) (by decide) ?_
  refine r_bipush (v := 37) (zdk oM_voting 68 rfl) (by decide) ?_
  refine r_bipush (v := 21) (zdk oM_voting 69 rfl) (by decide) ?_
  refine r_bipush (v := 23) (zdk oM_voting 70 rfl) (by decide) ?_
  refine r_callV4 (M' := mM_four) (zdk oM_voting 71 rfl) lM_M_96 vM_four rfl rfl (Nat.le_of_ble_eq_true rfl) rfl (spM_four d h11 44 3 37 21 23 q11.1 (by decide)) ?_
  intro r12 h12 p12
  obtain ⟨e12, p12⟩ := p12
  cases e12
  have q12 := q11.comp p12 rfl
  refine r_aload_n (zdk oM_voting 72 rfl) rfl rfl ?_
  refine r_bipush (v := 37) (zdk oM_voting 73 rfl) (by decide) ?_
  refine r_iconst (v := 4) (zdk oM_voting 74 rfl) (by decide) ?_
  refine r_iconst (v := 1) (zdk oM_voting 75 rfl) (by decide) ?_
  refine r_bipush (v := 36) (zdk oM_voting 76 rfl) (by decide) ?_
  refine r_callV4 (M' := mM_four) (zdk oM_voting 77 rfl) lM_M_96 vM_four rfl rfl (Nat.le_of_ble_eq_true rfl) rfl (spM_four d h12 48 37 4 1 36 q12.1 (by decide)) ?_
  intro r13 h13 p13
  obtain ⟨e13, p13⟩ := p13
  cases e13
  have q13 := q12.comp p13 rfl
  refine r_aload_n (zdk oM_voting 78 rfl) rfl rfl ?_
  refine r_getr (kf := 2) (zdk oM_voting 79 rfl) rfl rfl (by decide) lF_M_7 rfl ?_
  refine r_aload_n (zdk oM_voting 80 rfl) rfl rfl ?_
  refine r_geti (kf := 1) (zdk oM_voting 81 rfl) rfl rfl (by decide) lF_M_82 rfl ?_
  rw [show h13.1 27 1 = nI 52 from q13.1]
  refine r_bipush (v := 102) (zdk oM_voting 82 rfl) (by decide) ?_
  refine r_iast (zdk oM_voting 83 rfl) rfl (vp_in_nI (n := 52) (by decide) (by decide)) ?_
  refine r_aload_n (zdk oM_voting 84 rfl) rfl rfl ?_
  refine r_dup (zdk oM_voting 85 rfl) rfl ?_
  refine r_geti (kf := 1) (zdk oM_voting 86 rfl) rfl rfl (by decide) lF_M_82 rfl ?_
  rw [show (nI 52).toNatClampNeg = 52 from rfl, show (zput h13 28 52 102).1 27 1 = nI 52 by rw [zp1, if_neg (by omega)]; exact q13.1]
  refine r_iconst (v := 1) (zdk oM_voting 87 rfl) (by decide) ?_
  refine r_iadd (zdk oM_voting 88 rfl) ?_
  refine r_tp (nI_1 52) ?_
  refine r_puti (kf := 1) (zdk oM_voting 89 rfl) rfl rfl (by decide) lF_M_82 rfl rfl (by decide +kernel) (Or.inl rfl) ?_
  refine r_vret (zdk oM_voting 90 rfl) rfl ?_
  refine ⟨rfl, q13.comp (vs := [102]) (k := 52) ⟨by simp [zp1], ?_, ?_, rfl⟩ rfl⟩
  · intro i hi
    rcases i with _ | i
    · simp [zp1]
    · exact absurd hi (by simp)
  · intro x j c1 c2
    simp only [List.length_cons, List.length_nil] at c2
    rw [zp1, if_neg (by omega), zp1, if_neg (by omega)]
def wT3 : List Int32 := [4, 5, 4, 3, 15, 4, 1, 20, 22, 4, 102, 101, 100, 101, 102, 30, 27, 25, 31, 34, 26, 32, 20, 35, 35, 20, 24, 37, 4, 1, 0, 104, 103, 100, 30, 41, 34, 21, 41, 34, 1, 101, 30, 41, 34, 20, 33, 1, 102, 103, 104, 25, 102, 20, 33, 1, 100, 101, 102, 103, 27, 27, 25, 31, 34, 103, 26, 32, 20, 40, 1, 40, 1, 30, 104, 103, 0, 30, 100, 100, 41, 34, 101, 102, 0, 0]
theorem spM_leading (d : Nat) (h : zH) (hm : h.1 27 1 = nI 0) : zSP (d + 2) 0 0 mM_leading [.inr (.inr 27)] h (fun r h' => r = .inl none ∧ zAp h 0 wT3 h') := by
  refine zmet (by decide +kernel) (Nat.le_of_ble_eq_true rfl) ?_
  refine r_aload_n (zdk oM_leading 0 rfl) rfl rfl ?_
  refine r_iconst (v := 4) (zdk oM_leading 1 rfl) (by decide) ?_
  refine r_iconst (v := 5) (zdk oM_leading 2 rfl) (by decide) ?_
  refine r_iconst (v := 4) (zdk oM_leading 3 rfl) (by decide) ?_
  refine r_iconst (v := 3) (zdk oM_leading 4 rfl) (by decide) ?_
  refine r_callV4 (M' := mM_four) (zdk oM_leading 5 rfl) lM_M_96 vM_four rfl rfl (Nat.le_of_ble_eq_true rfl) rfl (spM_four d h 0 4 5 4 3 hm (by decide)) ?_
  intro r1 h1 p1
  obtain ⟨e1, p1⟩ := p1
  cases e1
  have q1 := p1
  refine r_aload_n (zdk oM_leading 6 rfl) rfl rfl ?_
  refine r_bipush (v := 15) (zdk oM_leading 7 rfl) (by decide) ?_
  refine r_iconst (v := 4) (zdk oM_leading 8 rfl) (by decide) ?_
  refine r_iconst (v := 1) (zdk oM_leading 9 rfl) (by decide) ?_
  refine r_bipush (v := 20) (zdk oM_leading 10 rfl) (by decide) ?_
  refine r_callV4 (M' := mM_four) (zdk oM_leading 11 rfl) lM_M_96 vM_four rfl rfl (Nat.le_of_ble_eq_true rfl) rfl (spM_four d h1 4 15 4 1 20 q1.1 (by decide)) ?_
  intro r2 h2 p2
  obtain ⟨e2, p2⟩ := p2
  cases e2
  have q2 := q1.comp p2 rfl
  refine r_aload_n (zdk oM_leading 12 rfl) rfl rfl ?_
  refine r_bipush (v := 22) (zdk oM_leading 13 rfl) (by decide) ?_
  refine r_iconst (v := 4) (zdk oM_leading 14 rfl) (by decide) ?_
  refine r_bipush (v := 102) (zdk oM_leading 15 rfl) (by decide) ?_
  refine r_bipush (v := 101) (zdk oM_leading 16 rfl) (by decide) ?_
  refine r_callV4 (M' := mM_four) (zdk oM_leading 17 rfl) lM_M_96 vM_four rfl rfl (Nat.le_of_ble_eq_true rfl) rfl (spM_four d h2 8 22 4 102 101 q2.1 (by decide)) ?_
  intro r3 h3 p3
  obtain ⟨e3, p3⟩ := p3
  cases e3
  have q3 := q2.comp p3 rfl
  refine r_aload_n (zdk oM_leading 18 rfl) rfl rfl ?_
  refine r_bipush (v := 100) (zdk oM_leading 19 rfl) (by decide) ?_
  refine r_bipush (v := 101) (zdk oM_leading 20 rfl) (by decide) ?_
  refine r_bipush (v := 102) (zdk oM_leading 21 rfl) (by decide) ?_
  refine r_bipush (v := 30) (zdk oM_leading 22 rfl) (by decide) ?_
  refine r_callV4 (M' := mM_four) (zdk oM_leading 23 rfl) lM_M_96 vM_four rfl rfl (Nat.le_of_ble_eq_true rfl) rfl (spM_four d h3 12 100 101 102 30 q3.1 (by decide)) ?_
  intro r4 h4 p4
  obtain ⟨e4, p4⟩ := p4
  cases e4
  have q4 := q3.comp p4 rfl
  refine r_aload_n (zdk oM_leading 24 rfl) rfl rfl ?_
  refine r_bipush (v := 27) (zdk oM_leading 25 rfl) (by decide) ?_
  refine r_bipush (v := 25) (zdk oM_leading 26 rfl) (by decide) ?_
  refine r_bipush (v := 31) (zdk oM_leading 27 rfl) (by decide) ?_
  refine r_bipush (v := 34) (zdk oM_leading 28 rfl) (by decide) ?_
  refine r_callV4 (M' := mM_four) (zdk oM_leading 29 rfl) lM_M_96 vM_four rfl rfl (Nat.le_of_ble_eq_true rfl) rfl (spM_four d h4 16 27 25 31 34 q4.1 (by decide)) ?_
  intro r5 h5 p5
  obtain ⟨e5, p5⟩ := p5
  cases e5
  have q5 := q4.comp p5 rfl
  refine r_aload_n (zdk oM_leading 30 rfl) rfl rfl ?_
  refine r_bipush (v := 26) (zdk oM_leading 31 rfl) (by decide) ?_
  refine r_bipush (v := 32) (zdk oM_leading 32 rfl) (by decide) ?_
  refine r_bipush (v := 20) (zdk oM_leading 33 rfl) (by decide) ?_
  refine r_bipush (v := 35) (zdk oM_leading 34 rfl) (by decide) ?_
  refine r_callV4 (M' := mM_four) (zdk oM_leading 35 rfl) lM_M_96 vM_four rfl rfl (Nat.le_of_ble_eq_true rfl) rfl (spM_four d h5 20 26 32 20 35 q5.1 (by decide)) ?_
  intro r6 h6 p6
  obtain ⟨e6, p6⟩ := p6
  cases e6
  have q6 := q5.comp p6 rfl
  refine r_aload_n (zdk oM_leading 36 rfl) rfl rfl ?_
  refine r_bipush (v := 35) (zdk oM_leading 37 rfl) (by decide) ?_
  refine r_bipush (v := 20) (zdk oM_leading 38 rfl) (by decide) ?_
  refine r_bipush (v := 24) (zdk oM_leading 39 rfl) (by decide) ?_
  refine r_bipush (v := 37) (zdk oM_leading 40 rfl) (by decide) ?_
  refine r_callV4 (M' := mM_four) (zdk oM_leading 41 rfl) lM_M_96 vM_four rfl rfl (Nat.le_of_ble_eq_true rfl) rfl (spM_four d h6 24 35 20 24 37 q6.1 (by decide)) ?_
  intro r7 h7 p7
  obtain ⟨e7, p7⟩ := p7
  cases e7
  have q7 := q6.comp p7 rfl
  refine r_aload_n (zdk oM_leading 42 rfl) rfl rfl ?_
  refine r_iconst (v := 4) (zdk oM_leading 43 rfl) (by decide) ?_
  refine r_iconst (v := 1) (zdk oM_leading 44 rfl) (by decide) ?_
  refine r_iconst (v := 0) (zdk oM_leading 45 rfl) (by decide) ?_
  refine r_bipush (v := 104) (zdk oM_leading 46 rfl) (by decide) ?_
  refine r_callV4 (M' := mM_four) (zdk oM_leading 47 rfl) lM_M_96 vM_four rfl rfl (Nat.le_of_ble_eq_true rfl) rfl (spM_four d h7 28 4 1 0 104 q7.1 (by decide)) ?_
  intro r8 h8 p8
  obtain ⟨e8, p8⟩ := p8
  cases e8
  have q8 := q7.comp p8 rfl
  refine r_aload_n (zdk oM_leading 48 rfl) rfl rfl ?_
  refine r_bipush (v := 103) (zdk oM_leading 49 rfl) (by decide) ?_
  refine r_bipush (v := 100) (zdk oM_leading 50 rfl) (by decide) ?_
  refine r_bipush (v := 30) (zdk oM_leading 51 rfl) (by decide) ?_
  refine r_bipush (v := 41) (zdk oM_leading 52 rfl) (by decide) ?_
  refine r_callV4 (M' := mM_four) (zdk oM_leading 53 rfl) lM_M_96 vM_four rfl rfl (Nat.le_of_ble_eq_true rfl) rfl (spM_four d h8 32 103 100 30 41 q8.1 (by decide)) ?_
  intro r9 h9 p9
  obtain ⟨e9, p9⟩ := p9
  cases e9
  have q9 := q8.comp p9 rfl
  refine r_aload_n (zdk oM_leading 54 rfl) rfl rfl ?_
  refine r_bipush (v := 34) (zdk oM_leading 55 rfl) (by decide) ?_
  refine r_bipush (v := 21) (zdk oM_leading 56 rfl) (by decide) ?_
  refine r_bipush (v := 41) (zdk oM_leading 57 rfl) (by decide) ?_
  refine r_bipush (v := 34) (zdk oM_leading 58 rfl) (by decide) ?_
  refine r_callV4 (M' := mM_four) (zdk oM_leading 59 rfl) lM_M_96 vM_four rfl rfl (Nat.le_of_ble_eq_true rfl) rfl (spM_four d h9 36 34 21 41 34 q9.1 (by decide)) ?_
  intro r10 h10 p10
  obtain ⟨e10, p10⟩ := p10
  cases e10
  have q10 := q9.comp p10 rfl
  refine r_aload_n (zdk oM_leading 60 rfl) rfl rfl ?_
  refine r_iconst (v := 1) (zdk oM_leading 61 rfl) (by decide) ?_
  refine r_bipush (v := 101) (zdk oM_leading 62 rfl) (by decide) ?_
  refine r_bipush (v := 30) (zdk oM_leading 63 rfl) (by decide) ?_
  refine r_bipush (v := 41) (zdk oM_leading 64 rfl) (by decide) ?_
  refine r_callV4 (M' := mM_four) (zdk oM_leading 65 rfl) lM_M_96 vM_four rfl rfl (Nat.le_of_ble_eq_true rfl) rfl (spM_four d h10 40 1 101 30 41 q10.1 (by decide)) ?_
  intro r11 h11 p11
  obtain ⟨e11, p11⟩ := p11
  cases e11
  have q11 := q10.comp p11 rfl
  refine r_aload_n (zdk oM_leading 66 rfl) rfl rfl ?_
  refine r_bipush (v := 34) (zdk oM_leading 67 rfl) (by decide) ?_
  refine r_bipush (v := 20) (zdk oM_leading 68 rfl) (by decide) ?_
  refine r_bipush (v := 33) (zdk oM_leading 69 rfl) (by decide) ?_
  refine r_iconst (v := 1) (zdk oM_leading 70 rfl) (by decide) ?_
  refine r_callV4 (M' := mM_four) (zdk oM_leading 71 rfl) lM_M_96 vM_four rfl rfl (Nat.le_of_ble_eq_true rfl) rfl (spM_four d h11 44 34 20 33 1 q11.1 (by decide)) ?_
  intro r12 h12 p12
  obtain ⟨e12, p12⟩ := p12
  cases e12
  have q12 := q11.comp p12 rfl
  refine r_aload_n (zdk oM_leading 72 rfl) rfl rfl ?_
  refine r_bipush (v := 102) (zdk oM_leading 73 rfl) (by decide) ?_
  refine r_bipush (v := 103) (zdk oM_leading 74 rfl) (by decide) ?_
  refine r_bipush (v := 104) (zdk oM_leading 75 rfl) (by decide) ?_
  refine r_bipush (v := 25) (zdk oM_leading 76 rfl) (by decide) ?_
  refine r_callV4 (M' := mM_four) (zdk oM_leading 77 rfl) lM_M_96 vM_four rfl rfl (Nat.le_of_ble_eq_true rfl) rfl (spM_four d h12 48 102 103 104 25 q12.1 (by decide)) ?_
  intro r13 h13 p13
  obtain ⟨e13, p13⟩ := p13
  cases e13
  have q13 := q12.comp p13 rfl
  refine r_aload_n (zdk oM_leading 78 rfl) rfl rfl ?_
  refine r_bipush (v := 102) (zdk oM_leading 79 rfl) (by decide) ?_
  refine r_bipush (v := 20) (zdk oM_leading 80 rfl) (by decide) ?_
  refine r_bipush (v := 33) (zdk oM_leading 81 rfl) (by decide) ?_
  refine r_iconst (v := 1) (zdk oM_leading 82 rfl) (by decide) ?_
  refine r_callV4 (M' := mM_four) (zdk oM_leading 83 rfl) lM_M_96 vM_four rfl rfl (Nat.le_of_ble_eq_true rfl) rfl (spM_four d h13 52 102 20 33 1 q13.1 (by decide)) ?_
  intro r14 h14 p14
  obtain ⟨e14, p14⟩ := p14
  cases e14
  have q14 := q13.comp p14 rfl
  refine r_aload_n (zdk oM_leading 84 rfl) rfl rfl ?_
  refine r_bipush (v := 100) (zdk oM_leading 85 rfl) (by decide) ?_
  refine r_bipush (v := 101) (zdk oM_leading 86 rfl) (by decide) ?_
  refine r_bipush (v := 102) (zdk oM_leading 87 rfl) (by decide) ?_
  refine r_bipush (v := 103) (zdk oM_leading 88 rfl) (by decide) ?_
  refine r_callV4 (M' := mM_four) (zdk oM_leading 89 rfl) lM_M_96 vM_four rfl rfl (Nat.le_of_ble_eq_true rfl) rfl (spM_four d h14 56 100 101 102 103 q14.1 (by decide)) ?_
  intro r15 h15 p15
  obtain ⟨e15, p15⟩ := p15
  cases e15
  have q15 := q14.comp p15 rfl
  refine r_aload_n (zdk oM_leading 90 rfl) rfl rfl ?_
  refine r_bipush (v := 27) (zdk oM_leading 91 rfl) (by decide) ?_
  refine r_bipush (v := 27) (zdk oM_leading 92 rfl) (by decide) ?_
  refine r_bipush (v := 25) (zdk oM_leading 93 rfl) (by decide) ?_
  refine r_bipush (v := 31) (zdk oM_leading 94 rfl) (by decide) ?_
  refine r_callV4 (M' := mM_four) (zdk oM_leading 95 rfl) lM_M_96 vM_four rfl rfl (Nat.le_of_ble_eq_true rfl) rfl (spM_four d h15 60 27 27 25 31 q15.1 (by decide)) ?_
  intro r16 h16 p16
  obtain ⟨e16, p16⟩ := p16
  cases e16
  have q16 := q15.comp p16 rfl
  refine r_aload_n (zdk oM_leading 96 rfl) rfl rfl ?_
  refine r_bipush (v := 34) (zdk oM_leading 97 rfl) (by decide) ?_
  refine r_bipush (v := 103) (zdk oM_leading 98 rfl) (by decide) ?_
  refine r_bipush (v := 26) (zdk oM_leading 99 rfl) (by decide) ?_
  refine r_bipush (v := 32) (zdk oM_leading 100 rfl) (by decide) ?_
  refine r_callV4 (M' := mM_four) (zdk oM_leading 101 rfl) lM_M_96 vM_four rfl rfl (Nat.le_of_ble_eq_true rfl) rfl (spM_four d h16 64 34 103 26 32 q16.1 (by decide)) ?_
  intro r17 h17 p17
  obtain ⟨e17, p17⟩ := p17
  cases e17
  have q17 := q16.comp p17 rfl
  refine r_aload_n (zdk oM_leading 102 rfl) rfl rfl ?_
  refine r_bipush (v := 20) (zdk oM_leading 103 rfl) (by decide) ?_
  refine r_bipush (v := 40) (zdk oM_leading 104 rfl) (by decide) ?_
  refine r_iconst (v := 1) (zdk oM_leading 105 rfl) (by decide) ?_
  refine r_bipush (v := 40) (zdk oM_leading 106 rfl) (by decide) ?_
  refine r_callV4 (M' := mM_four) (zdk oM_leading 107 rfl) lM_M_96 vM_four rfl rfl (Nat.le_of_ble_eq_true rfl) rfl (spM_four d h17 68 20 40 1 40 q17.1 (by decide)) ?_
  intro r18 h18 p18
  obtain ⟨e18, p18⟩ := p18
  cases e18
  have q18 := q17.comp p18 rfl
  refine r_aload_n (zdk oM_leading 108 rfl) rfl rfl ?_
  refine r_iconst (v := 1) (zdk oM_leading 109 rfl) (by decide) ?_
  refine r_bipush (v := 30) (zdk oM_leading 110 rfl) (by decide) ?_
  refine r_bipush (v := 104) (zdk oM_leading 111 rfl) (by decide) ?_
  refine r_bipush (v := 103) (zdk oM_leading 112 rfl) (by decide) ?_
  refine r_callV4 (M' := mM_four) (zdk oM_leading 113 rfl) lM_M_96 vM_four rfl rfl (Nat.le_of_ble_eq_true rfl) rfl (spM_four d h18 72 1 30 104 103 q18.1 (by decide)) ?_
  intro r19 h19 p19
  obtain ⟨e19, p19⟩ := p19
  cases e19
  have q19 := q18.comp p19 rfl
  refine r_aload_n (zdk oM_leading 114 rfl) rfl rfl ?_
  refine r_iconst (v := 0) (zdk oM_leading 115 rfl) (by decide) ?_
  refine r_bipush (v := 30) (zdk oM_leading 116 rfl) (by decide) ?_
  refine r_bipush (v := 100) (zdk oM_leading 117 rfl) (by decide) ?_
  refine r_bipush (v := 100) (zdk oM_leading 118 rfl) (by decide) ?_
  refine r_callV4 (M' := mM_four) (zdk oM_leading 119 rfl) lM_M_96 vM_four rfl rfl (Nat.le_of_ble_eq_true rfl) rfl (spM_four d h19 76 0 30 100 100 q19.1 (by decide)) ?_
  intro r20 h20 p20
  obtain ⟨e20, p20⟩ := p20
  cases e20
  have q20 := q19.comp p20 rfl
  refine r_aload_n (zdk oM_leading 120 rfl) rfl rfl ?_
  refine r_bipush (v := 41) (zdk oM_leading 121 rfl) (by decide) ?_
  refine r_bipush (v := 34) (zdk oM_leading 122 rfl) (by decide) ?_
  refine r_bipush (v := 101) (zdk oM_leading 123 rfl) (by decide) ?_
  refine r_bipush (v := 102) (zdk oM_leading 124 rfl) (by decide) ?_
  refine r_callV4 (M' := mM_four) (zdk oM_leading 125 rfl) lM_M_96 vM_four rfl rfl (Nat.le_of_ble_eq_true rfl) rfl (spM_four d h20 80 41 34 101 102 q20.1 (by decide)) ?_
  intro r21 h21 p21
  obtain ⟨e21, p21⟩ := p21
  cases e21
  have q21 := q20.comp p21 rfl
  refine r_aload_n (zdk oM_leading 126 rfl) rfl rfl ?_
  refine r_iconst (v := 0) (zdk oM_leading 127 rfl) (by decide) ?_
  refine r_iconst (v := 0) (zdk oM_leading 128 rfl) (by decide) ?_
  refine r_callV2 (M' := mM_two) (zdk oM_leading 129 rfl) lM_M_92 vM_two rfl rfl (Nat.le_of_ble_eq_true rfl) rfl (spM_two (d + 1) h21 84 0 0 q21.1 (by decide)) ?_
  intro r22 h22 p22
  obtain ⟨e22, p22⟩ := p22
  cases e22
  have q22 := q21.comp p22 rfl
  refine r_vret (zdk oM_leading 130 rfl) rfl ?_
  exact ⟨rfl, q22⟩
