/-! the class's public methods, where they answer -/
theorem spL_requireProgram (d : Nat) (h : zH) (hc : h.1 1 4 = fBo true) : zSP d 0 0 mL_requireProgram [.inr (.inr 0)] h (zU h) := by
  refine zmet (by decide +kernel) (Nat.le_of_ble_eq_true rfl) ?_
  refine r_aload_n (zdk oL_requireProgram 0 rfl) rfl rfl ?_
  refine r_getr (kf := 0) (zdk oL_requireProgram 1 rfl) rfl rfl (by decide) lF_L_10 rfl ?_
  refine r_geti (kf := 4) (zdk oL_requireProgram 2 rfl) rfl rfl (by decide) lF_L_172 rfl ?_
  rw [hc]
  refine r_if_ne (tgt := 20) (zdk oL_requireProgram 3 rfl) (by decide) (fun _ => ?_) (fun q9 => absurd q9 ((fBo_t)))
  refine r_vret (zdk oL_requireProgram 9 rfl) rfl ?_
  exact zUi rfl
theorem spL_requireProcess (d : Nat) (h : zH) (k np : Nat) (hp : h.1 9 2 = nI np) (hk : k < np) (np7 : np ≤ 7) : zSP (d + 1) 0 0 mL_requireProcess [.inr (.inr 0), .inl (nI k)] h (zU h) := by
  refine zmet (by decide +kernel) (Nat.le_of_ble_eq_true rfl) ?_
  refine r_iload_n (zdk oL_requireProcess 0 rfl) rfl rfl ?_
  refine r_if_lt (tgt := 15) (zdk oL_requireProcess 1 rfl) (by decide) (fun q9 => absurd q9 ((zm1p (by omega)))) (fun _ => ?_)
  refine r_iload_n (zdk oL_requireProcess 2 rfl) rfl rfl ?_
  refine r_aload_n (zdk oL_requireProcess 3 rfl) rfl rfl ?_
  refine r_getr (kf := 2) (zdk oL_requireProcess 4 rfl) rfl rfl (by decide) lF_L_25 rfl ?_
  refine r_callV0i (M' := mR_processes) (zdk oL_requireProcess 5 rfl) lM_L_121 vR_processes rfl rfl (Nat.le_of_ble_eq_true rfl) rfl (spR_processes d h) ?_
  rw [hp]
  refine r_icmp_lt (tgt := 25) (zdk oL_requireProcess 6 rfl) (by decide) (fun _ => ?_) (fun q9 => absurd ((Int32.not_le.mp (nI_ge hk (by omega)))) q9)
  refine r_vret (zdk oL_requireProcess 12 rfl) rfl ?_
  exact zUi rfl
theorem spL_requireBetween (d : Nat) (h : zH) (v lo hi : Int32) (h1 : ¬ v < lo) (h2 : ¬ hi < v) : zSP d 0 0 mL_requireBetween [.inl v, .inl lo, .inl hi] h (zU h) := by
  refine zmet (by decide +kernel) (Nat.le_of_ble_eq_true rfl) ?_
  refine r_iload_n (zdk oL_requireBetween 0 rfl) rfl rfl ?_
  refine r_iload_n (zdk oL_requireBetween 1 rfl) rfl rfl ?_
  refine r_icmp_lt (tgt := 10) (zdk oL_requireBetween 2 rfl) (by decide) (fun q9 => absurd q9 ((h1))) (fun _ => ?_)
  refine r_iload_n (zdk oL_requireBetween 3 rfl) rfl rfl ?_
  refine r_iload_n (zdk oL_requireBetween 4 rfl) rfl rfl ?_
  refine r_icmp_le (tgt := 20) (zdk oL_requireBetween 5 rfl) (by decide) (fun _ => ?_) (fun q9 => absurd ((Int32.not_lt.mp h2)) q9)
  refine r_vret (zdk oL_requireBetween 11 rfl) rfl ?_
  exact zUi rfl
theorem spL_at (d : Nat) (h : zH) (k n : Nat) (hm : h.1 1 3 = nI n) (hn : n ≤ 400) (hk : k < n) : zSP d 0 0 mL_at [.inr (.inr 0), .inl (nI k)] h (zI (h.1 2 k) h) := by
  refine zmet (by decide +kernel) (Nat.le_of_ble_eq_true rfl) ?_
  refine r_iload_n (zdk oL_at 0 rfl) rfl rfl ?_
  refine r_if_lt (tgt := 15) (zdk oL_at 1 rfl) (by decide) (fun q9 => absurd q9 ((zm1p (by omega)))) (fun _ => ?_)
  refine r_iload_n (zdk oL_at 2 rfl) rfl rfl ?_
  refine r_aload_n (zdk oL_at 3 rfl) rfl rfl ?_
  refine r_getr (kf := 0) (zdk oL_at 4 rfl) rfl rfl (by decide) lF_L_10 rfl ?_
  refine r_geti (kf := 3) (zdk oL_at 5 rfl) rfl rfl (by decide) lF_L_36 rfl ?_
  rw [hm]
  refine r_icmp_lt (tgt := 25) (zdk oL_at 6 rfl) (by decide) (fun _ => ?_) (fun q9 => absurd ((Int32.not_le.mp (nI_ge hk (by omega)))) q9)
  refine r_aload_n (zdk oL_at 12 rfl) rfl rfl ?_
  refine r_getr (kf := 0) (zdk oL_at 13 rfl) rfl rfl (by decide) lF_L_10 rfl ?_
  refine r_getr (kf := 0) (zdk oL_at 14 rfl) rfl rfl (by decide) lF_L_169 rfl ?_
  refine r_iload_n (zdk oL_at 15 rfl) rfl rfl ?_
  refine r_iald (zdk oL_at 16 rfl) rfl (vp_in_nI (n := k) (by omega) (by decide)) ?_
  refine r_iret (zdk oL_at 17 rfl) rfl ?_
  exact zIi (by rw [nI_clamp (n := k) (by omega)])
theorem spL_trace (d : Nat) (h : zH) (k n : Nat) (hm : h.1 14 2 = nI n) (hn : n ≤ 18) (hk : k < n) : zSP d 0 0 mL_trace [.inr (.inr 0), .inl (nI k)] h (zI (h.1 15 k) h) := by
  refine zmet (by decide +kernel) (Nat.le_of_ble_eq_true rfl) ?_
  refine r_iload_n (zdk oL_trace 0 rfl) rfl rfl ?_
  refine r_if_lt (tgt := 15) (zdk oL_trace 1 rfl) (by decide) (fun q9 => absurd q9 ((zm1p (by omega)))) (fun _ => ?_)
  refine r_iload_n (zdk oL_trace 2 rfl) rfl rfl ?_
  refine r_aload_n (zdk oL_trace 3 rfl) rfl rfl ?_
  refine r_getr (kf := 3) (zdk oL_trace 4 rfl) rfl rfl (by decide) lF_L_32 rfl ?_
  refine r_geti (kf := 2) (zdk oL_trace 5 rfl) rfl rfl (by decide) lF_L_159 rfl ?_
  rw [hm]
  refine r_icmp_lt (tgt := 25) (zdk oL_trace 6 rfl) (by decide) (fun _ => ?_) (fun q9 => absurd ((Int32.not_le.mp (nI_ge hk (by omega)))) q9)
  refine r_aload_n (zdk oL_trace 12 rfl) rfl rfl ?_
  refine r_getr (kf := 3) (zdk oL_trace 13 rfl) rfl rfl (by decide) lF_L_32 rfl ?_
  refine r_getr (kf := 3) (zdk oL_trace 14 rfl) rfl rfl (by decide) lF_L_164 rfl ?_
  refine r_iload_n (zdk oL_trace 15 rfl) rfl rfl ?_
  refine r_iald (zdk oL_trace 16 rfl) rfl (vp_in_nI (n := k) (by omega) (by decide)) ?_
  refine r_iret (zdk oL_trace 17 rfl) rfl ?_
  exact zIi (by rw [nI_clamp (n := k) (by omega)])
theorem spL_clear (d : Nat) (h : zH) : zSP (d + 1) 0 0 mL_clear [.inr (.inr 0)] h (zI (h.1 1 3) (zput (zput (zput (zput h 1 3 0) 1 4 0) 9 2 0) 6 2 0)) := by
  refine zmet (by decide +kernel) (Nat.le_of_ble_eq_true rfl) ?_
  refine r_aload_n (zdk oL_clear 0 rfl) rfl rfl ?_
  refine r_getr (kf := 0) (zdk oL_clear 1 rfl) rfl rfl (by decide) lF_L_10 rfl ?_
  refine r_geti (kf := 3) (zdk oL_clear 2 rfl) rfl rfl (by decide) lF_L_36 rfl ?_
  refine r_istore_n (zdk oL_clear 3 rfl) rfl (Nat.le_of_ble_eq_true rfl) rfl ?_
  refine r_aload_n (zdk oL_clear 4 rfl) rfl rfl ?_
  refine r_getr (kf := 0) (zdk oL_clear 5 rfl) rfl rfl (by decide) lF_L_10 rfl ?_
  refine r_callV0v (M' := mP_removeAll) (zdk oL_clear 6 rfl) lM_L_72 vP_removeAll rfl rfl (Nat.le_of_ble_eq_true rfl) rfl (spP_removeAll d h) ?_
  refine r_aload_n (zdk oL_clear 7 rfl) rfl rfl ?_
  refine r_getr (kf := 2) (zdk oL_clear 8 rfl) rfl rfl (by decide) lF_L_25 rfl ?_
  refine r_callV0v (M' := mR_end) (zdk oL_clear 9 rfl) lM_L_51 vR_end rfl rfl (Nat.le_of_ble_eq_true rfl) rfl (spR_end d _) ?_
  refine r_iload_n (zdk oL_clear 10 rfl) rfl rfl ?_
  refine r_iret (zdk oL_clear 11 rfl) rfl ?_
  exact zIh rfl rfl
theorem spL_check (d : Nat) (h : zH) (n : Nat) (hs : h.1 1 3 = nI n) (hn : n ≤ 400) : zSP (d + 14) 0 0 mL_check [.inr (.inr 0)] h (fun r h' => r = .inl (some (.inl (fErr (h.1 2) n + 1))) ∧ zFE (zput (zput h 9 2 0) 6 2 0) n (.inl (some (.inl (fErr (h.1 2) n)))) h') := by
  have hw : (zput (zput h 9 2 0) 6 2 0).1 2 = h.1 2 := by funext j; simp [zp1]
  refine zmet (by decide +kernel) (Nat.le_of_ble_eq_true rfl) ?_
  refine r_aload_n (zdk oL_check 0 rfl) rfl rfl ?_
  refine r_getr (kf := 2) (zdk oL_check 1 rfl) rfl rfl (by decide) lF_L_25 rfl ?_
  refine r_callV0v (M' := mR_end) (zdk oL_check 2 rfl) lM_L_51 vR_end rfl rfl (Nat.le_of_ble_eq_true rfl) rfl (spR_end (d + 13) h) ?_
  refine r_aload_n (zdk oL_check 3 rfl) rfl rfl ?_
  refine r_getr (kf := 0) (zdk oL_check 4 rfl) rfl rfl (by decide) lF_L_10 rfl ?_
  refine r_callV0 (M' := mP_findError) (zdk oL_check 5 rfl) lM_L_75 vP_findError rfl rfl (Nat.le_of_ble_eq_true rfl) rfl (spP_findError d _ n (by simp [zp1, hs]) hn) ?_
  intro r h1 q
  have q0 := q
  obtain ⟨e, -⟩ := q
  rw [hw] at e
  cases e
  refine r_iconst (v := 1) (zdk oL_check 6 rfl) (by decide) ?_
  refine r_iadd (zdk oL_check 7 rfl) ?_
  refine r_iret (zdk oL_check 8 rfl) rfl ?_
  exact ⟨rfl, q0⟩
theorem spL_word (d : Nat) (h : zH) (n : Nat) (w : Int32) (hs : h.1 1 3 = nI n) (hn : n < 400) : zSP (d + 1) 0 0 mL_word [.inr (.inr 0), .inl w] h (zI (nI (n + 1)) (zput (zput (zput (zput (zput h 2 n w) 1 3 (nI (n + 1))) 1 4 0) 9 2 0) 6 2 0)) := by
  refine zmet (by decide +kernel) (Nat.le_of_ble_eq_true rfl) ?_
  refine r_aload_n (zdk oL_word 0 rfl) rfl rfl ?_
  refine r_getr (kf := 0) (zdk oL_word 1 rfl) rfl rfl (by decide) lF_L_10 rfl ?_
  refine r_geti (kf := 3) (zdk oL_word 2 rfl) rfl rfl (by decide) lF_L_36 rfl ?_
  refine r_sipush (v := 400) (zdk oL_word 3 rfl) (by decide) ?_
  rw [hs]
  refine r_icmp_ne (tgt := 23) (zdk oL_word 4 rfl) (by decide) (fun _ => ?_) (fun q9 => absurd q9 ((fun z => absurd (nI_inj (by omega) (by decide) (show nI n = nI 400 from z)) (by omega))))
  refine r_aload_n (zdk oL_word 10 rfl) rfl rfl ?_
  refine r_getr (kf := 0) (zdk oL_word 11 rfl) rfl rfl (by decide) lF_L_10 rfl ?_
  refine r_iload_n (zdk oL_word 12 rfl) rfl rfl ?_
  refine r_callV1v (M' := mP_append) (zdk oL_word 13 rfl) lM_L_47 vP_append rfl rfl (Nat.le_of_ble_eq_true rfl) rfl (spP_append d h n w hs hn) ?_
  refine r_aload_n (zdk oL_word 14 rfl) rfl rfl ?_
  refine r_getr (kf := 2) (zdk oL_word 15 rfl) rfl rfl (by decide) lF_L_25 rfl ?_
  refine r_callV0v (M' := mR_end) (zdk oL_word 16 rfl) lM_L_51 vR_end rfl rfl (Nat.le_of_ble_eq_true rfl) rfl (spR_end d _) ?_
  refine r_aload_n (zdk oL_word 17 rfl) rfl rfl ?_
  refine r_getr (kf := 0) (zdk oL_word 18 rfl) rfl rfl (by decide) lF_L_10 rfl ?_
  refine r_geti (kf := 3) (zdk oL_word 19 rfl) rfl rfl (by decide) lF_L_36 rfl ?_
  refine r_iret (zdk oL_word 20 rfl) rfl ?_
  exact zIh (by simp [zp1]) rfl
theorem spL_input (d : Nat) (h : zH) (p : Nat) (v : Int32) (hp : p < 7) (hv : ¬ v < 0 ∧ ¬ 15 < v) : zSP (d + 1) 0 0 mL_input [.inr (.inr 0), .inl (nI p), .inl v] h (zI (h.1 5 p) (zput h 5 p v)) := by
  have ep : (nI p).toNatClampNeg = p := nI_clamp (by omega)
  refine zmet (by decide +kernel) (Nat.le_of_ble_eq_true rfl) ?_
  refine r_iload_n (zdk oL_input 0 rfl) rfl rfl ?_
  refine r_if_lt (tgt := 10) (zdk oL_input 1 rfl) (by decide) (fun q9 => absurd q9 ((zm1p (by omega)))) (fun _ => ?_)
  refine r_iload_n (zdk oL_input 2 rfl) rfl rfl ?_
  refine r_bipush (v := 7) (zdk oL_input 3 rfl) (by decide) ?_
  refine r_icmp_lt (tgt := 20) (zdk oL_input 4 rfl) (by decide) (fun _ => ?_) (fun q9 => absurd ((Int32.not_le.mp (nI_ge (a := p) (b := 7) hp (by decide)))) q9)
  refine r_iload_n (zdk oL_input 10 rfl) rfl rfl ?_
  refine r_iconst (v := 0) (zdk oL_input 11 rfl) (by decide) ?_
  refine r_bipush (v := 15) (zdk oL_input 12 rfl) (by decide) ?_
  refine r_callS3v (M' := mL_requireBetween) (zdk oL_input 13 rfl) lM_L_99 sL_requireBetween (Nat.le_of_ble_eq_true rfl) rfl (spL_requireBetween d h v 0 15 hv.1 hv.2) ?_
  refine r_aload_n (zdk oL_input 14 rfl) rfl rfl ?_
  refine r_getr (kf := 1) (zdk oL_input 15 rfl) rfl rfl (by decide) lF_L_16 rfl ?_
  refine r_iload_n (zdk oL_input 16 rfl) rfl rfl ?_
  refine r_iald (zdk oL_input 17 rfl) rfl (vp_in_nI (n := p) (by omega) (by decide)) ?_
  refine r_istore_n (zdk oL_input 18 rfl) rfl (Nat.le_of_ble_eq_true rfl) rfl ?_
  refine r_aload_n (zdk oL_input 19 rfl) rfl rfl ?_
  refine r_getr (kf := 1) (zdk oL_input 20 rfl) rfl rfl (by decide) lF_L_16 rfl ?_
  refine r_iload_n (zdk oL_input 21 rfl) rfl rfl ?_
  refine r_iload_n (zdk oL_input 22 rfl) rfl rfl ?_
  refine r_iast (zdk oL_input 23 rfl) rfl (vp_in_nI (n := p) (by omega) (by decide)) ?_
  refine r_iload_n (zdk oL_input 24 rfl) rfl rfl ?_
  refine r_iret (zdk oL_input 25 rfl) rfl ?_
  exact zIh (by rw [ep]) (by rw [ep])
theorem spL_start (d : Nat) (h : zH) (np : Nat) (np1 : 1 ≤ np) (np7 : np ≤ 7) (hc : h.1 1 4 = fBo true) : zSP (d + 2) 0 0 mL_start [.inr (.inr 0), .inl (nI np)] h (fun r h' => r = .inl none ∧ zBeg h np h') := by
  refine zmet (by decide +kernel) (Nat.le_of_ble_eq_true rfl) ?_
  refine r_iload_n (zdk oL_start 0 rfl) rfl rfl ?_
  refine r_iconst (v := 1) (zdk oL_start 1 rfl) (by decide) ?_
  refine r_bipush (v := 7) (zdk oL_start 2 rfl) (by decide) ?_
  refine r_callS3v (M' := mL_requireBetween) (zdk oL_start 3 rfl) lM_L_99 sL_requireBetween (Nat.le_of_ble_eq_true rfl) rfl (spL_requireBetween (d + 1) h (nI np) 1 7 (Int32.not_lt.mpr (nI_lel (a := 1) np1 (by omega))) (Int32.not_lt.mpr (nI_lel (b := 7) np7 (by decide)))) ?_
  refine r_aload_n (zdk oL_start 4 rfl) rfl rfl ?_
  refine r_callV0v (M' := mL_requireProgram) (zdk oL_start 5 rfl) lM_L_79 vL_requireProgram rfl rfl (Nat.le_of_ble_eq_true rfl) rfl (spL_requireProgram (d + 1) h hc) ?_
  refine r_aload_n (zdk oL_start 6 rfl) rfl rfl ?_
  refine r_getr (kf := 2) (zdk oL_start 7 rfl) rfl rfl (by decide) lF_L_25 rfl ?_
  refine r_iload_n (zdk oL_start 8 rfl) rfl rfl ?_
  refine r_aload_n (zdk oL_start 9 rfl) rfl rfl ?_
  refine r_getr (kf := 1) (zdk oL_start 10 rfl) rfl rfl (by decide) lF_L_16 rfl ?_
  refine r_callV2 (M' := mR_begin) (zdk oL_start 11 rfl) lM_L_103 vR_begin rfl rfl (Nat.le_of_ble_eq_true rfl) rfl (spR_begin d h np np1 np7) ?_
  intro r h1 q
  obtain ⟨e, q⟩ := q
  cases e
  refine r_vret (zdk oL_start 12 rfl) rfl ?_
  exact ⟨rfl, q⟩
theorem spL_explore (d : Nat) (h : zH) (P : xP) (hP : xPok P) (R dd : Nat) (hR : R ≤ 5) (d1 : 1 ≤ dd) (d3 : dd ≤ 3) (hc : h.1 1 4 = fBo true) (hck : zChk h P.n P.ph P.vars) (hW : ∀ j, h.1 2 j = P.W j) (hm : ∀ i, i < 7 → fGood (h.1 18 i)) :
    zSP (d + 6) 0 0 mL_explore [.inr (.inr 0), .inl (nI P.np), .inl (nI R), .inl (nI dd), .inl (nI P.kd)] h (fun r0 h' => ∃ h1, zPre h P.np P.kd h1 ∧ r0 = .inl (some (.inl (xAns (xRs P (xFs P dd 64) R).1.e))) ∧ zCl P (xRs P (xFs P dd 64) R).1 h' ∧ zEndC P (xRs P (xFs P dd 64) R).1 h1 h' ∧ zRdy P h' ∧ zFq h1 h') := by
  have n1 := hP.n1
  have n3 := hP.n3
  have k3 := hP.k3
  refine zmet (by decide +kernel) (Nat.le_of_ble_eq_true rfl) ?_
  refine r_iload_n (zdk oL_explore 0 rfl) rfl rfl ?_
  refine r_iconst (v := 1) (zdk oL_explore 1 rfl) (by decide) ?_
  refine r_iconst (v := 3) (zdk oL_explore 2 rfl) (by decide) ?_
  refine r_callS3v (M' := mL_requireBetween) (zdk oL_explore 3 rfl) lM_L_99 sL_requireBetween (Nat.le_of_ble_eq_true rfl) rfl (spL_requireBetween (d + 5) h (nI P.np) 1 3 (Int32.not_lt.mpr (nI_lel (a := 1) n1 (by omega))) (Int32.not_lt.mpr (nI_lel (b := 3) n3 (by decide)))) ?_
  refine r_iload_n (zdk oL_explore 4 rfl) rfl rfl ?_
  refine r_iconst (v := 0) (zdk oL_explore 5 rfl) (by decide) ?_
  refine r_iconst (v := 5) (zdk oL_explore 6 rfl) (by decide) ?_
  refine r_callS3v (M' := mL_requireBetween) (zdk oL_explore 7 rfl) lM_L_99 sL_requireBetween (Nat.le_of_ble_eq_true rfl) rfl (spL_requireBetween (d + 5) h (nI R) 0 5 (zm1p (by omega)) (Int32.not_lt.mpr (nI_lel (b := 5) hR (by decide)))) ?_
  refine r_iload_n (zdk oL_explore 8 rfl) rfl rfl ?_
  refine r_iconst (v := 1) (zdk oL_explore 9 rfl) (by decide) ?_
  refine r_iconst (v := 3) (zdk oL_explore 10 rfl) (by decide) ?_
  refine r_callS3v (M' := mL_requireBetween) (zdk oL_explore 11 rfl) lM_L_99 sL_requireBetween (Nat.le_of_ble_eq_true rfl) rfl (spL_requireBetween (d + 5) h (nI dd) 1 3 (Int32.not_lt.mpr (nI_lel (a := 1) d1 (by omega))) (Int32.not_lt.mpr (nI_lel (b := 3) d3 (by decide)))) ?_
  refine r_iload (zdk oL_explore 12 rfl) rfl ?_
  refine r_iconst (v := 0) (zdk oL_explore 13 rfl) (by decide) ?_
  refine r_iconst (v := 3) (zdk oL_explore 14 rfl) (by decide) ?_
  refine r_callS3v (M' := mL_requireBetween) (zdk oL_explore 15 rfl) lM_L_99 sL_requireBetween (Nat.le_of_ble_eq_true rfl) rfl (spL_requireBetween (d + 5) h (nI P.kd) 0 3 (zm1p (by omega)) (Int32.not_lt.mpr (nI_lel (b := 3) k3 (by decide)))) ?_
  refine r_aload_n (zdk oL_explore 16 rfl) rfl rfl ?_
  refine r_callV0v (M' := mL_requireProgram) (zdk oL_explore 17 rfl) lM_L_79 vL_requireProgram rfl rfl (Nat.le_of_ble_eq_true rfl) rfl (spL_requireProgram (d + 5) h hc) ?_
  refine r_aload_n (zdk oL_explore 18 rfl) rfl rfl ?_
  refine r_getr (kf := 3) (zdk oL_explore 19 rfl) rfl rfl (by decide) lF_L_32 rfl ?_
  refine r_iload_n (zdk oL_explore 20 rfl) rfl rfl ?_
  refine r_iload (zdk oL_explore 21 rfl) rfl ?_
  refine r_callV2 (M' := mS_prepare) (zdk oL_explore 22 rfl) lM_L_152 vS_prepare rfl rfl (Nat.le_of_ble_eq_true rfl) rfl (spS_prepare (d + 3) h P.np P.kd n1 n3 k3) ?_
  intro r h1 q
  obtain ⟨e, q⟩ := q
  cases e
  obtain ⟨q1, q2, q3, q4, q5, q6, q7, q8, q9, qo, ql⟩ := id q
  have hy : zRdy P h1 := ⟨q1, q2, zChk_cg (fun a j ha => qo a j (by omega) (by omega) (by omega)) hck, fun j => by rw [qo 2 j (by omega) (by omega) (by decide), hW j], fun i hi => by rw [qo 18 i (by omega) (by omega) (by decide)]; exact hm i hi, q8, q9⟩
  refine r_aload_n (zdk oL_explore 23 rfl) rfl rfl ?_
  refine r_getr (kf := 3) (zdk oL_explore 24 rfl) rfl rfl (by decide) lF_L_32 rfl ?_
  refine r_iload_n (zdk oL_explore 25 rfl) rfl rfl ?_
  refine r_iload_n (zdk oL_explore 26 rfl) rfl rfl ?_
  refine r_callV2 (M' := mS_searchRuns) (zdk oL_explore 27 rfl) lM_L_156 vS_searchRuns rfl rfl (Nat.le_of_ble_eq_true rfl) rfl (spS_searchRuns d h1 P hP R dd hR d1 d3 hy q3 q6 q7) ?_
  intro r h2 w
  obtain ⟨e, w1, w2, w3, w4⟩ := w
  cases e
  refine r_iret (zdk oL_explore 28 rfl) rfl ?_
  exact ⟨h1, q, rfl, w1, w2, w3, w4⟩
