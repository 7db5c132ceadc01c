/-! the class's calls that are refused: what is thrown, and nothing is changed -/
def zX (X : Nat) (h : zH) : zR → zH → Prop := fun r h' => r = .inr X ∧ h' = h
theorem spL_requireProgram_t (d : Nat) (h : zH) (hc : h.1 1 4 = 0) : zTP d 1 6 mL_requireProgram [.inr (.inr 0)] h (zX 0 h) := by
  refine ztmet (by decide +kernel) (Nat.le_of_ble_eq_true rfl) ?_
  refine r_aload_n (zdk oL_requireProgram 0 rfl) rfl rfl ?_
  refine r_getr (kf := 0) (zdk oL_requireProgram 1 rfl) rfl rfl (by decide) lF_L_10 rfl ?_
  refine r_geti (kf := 4) (zdk oL_requireProgram 2 rfl) rfl rfl (by decide) lF_L_172 rfl ?_
  rw [hc]
  refine r_if_ne (tgt := 20) (zdk oL_requireProgram 3 rfl) (by decide) (fun q9 => absurd ((rfl)) q9) (fun _ => ?_)
  exact r_throw (X := 0) rfl (by decide +kernel) zAt0 (by decide) (zdk oL_requireProgram 4 rfl) (zdk oL_requireProgram 5 rfl) (zdk oL_requireProgram 6 rfl) (zdk oL_requireProgram 7 rfl) (zdk oL_requireProgram 8 rfl) zxC0 zxN0 zxI0 zxS184 rfl (by decide) (by decide) (⟨rfl, rfl⟩)
theorem spL_requireProcess_t (d : Nat) (h : zH) (v : Int32) (hv : v < 0 ∨ ¬ v < h.1 9 2) : zTP (d + 1) 1 6 mL_requireProcess [.inr (.inr 0), .inl v] h (zX 1 h) := by
  refine ztmet (by decide +kernel) (Nat.le_of_ble_eq_true rfl) ?_
  refine r_iload_n (zdk oL_requireProcess 0 rfl) rfl rfl ?_
  by_cases h0 : v < 0
  · refine r_if_lt (tgt := 15) (zdk oL_requireProcess 1 rfl) (by decide) (fun _ => ?_) (fun q9 => absurd ((h0)) q9)
    exact r_throw (X := 1) rfl (by decide +kernel) zAt1 (by decide) (zdk oL_requireProcess 7 rfl) (zdk oL_requireProcess 8 rfl) (zdk oL_requireProcess 9 rfl) (zdk oL_requireProcess 10 rfl) (zdk oL_requireProcess 11 rfl) zxC1 zxN1 zxI1 zxS186 rfl (by decide) (by decide) (⟨rfl, rfl⟩)
  · refine r_if_lt (tgt := 15) (zdk oL_requireProcess 1 rfl) (by decide) (fun q9 => absurd q9 ((h0))) (fun _ => ?_)
    refine r_iload_n (zdk oL_requireProcess 2 rfl) rfl rfl ?_
    refine r_aload_n (zdk oL_requireProcess 3 rfl) rfl rfl ?_
    refine r_getr (kf := 2) (zdk oL_requireProcess 4 rfl) rfl rfl (by decide) lF_L_25 rfl ?_
    refine r_callV0i (M' := mR_processes) (zdk oL_requireProcess 5 rfl) lM_L_121 vR_processes rfl rfl (Nat.le_of_ble_eq_true rfl) rfl (spR_processes d h) ?_
    refine r_icmp_lt (tgt := 25) (zdk oL_requireProcess 6 rfl) (by decide) (fun q9 => absurd q9 ((hv.resolve_left h0))) (fun _ => ?_)
    exact r_throw (X := 1) rfl (by decide +kernel) zAt1 (by decide) (zdk oL_requireProcess 7 rfl) (zdk oL_requireProcess 8 rfl) (zdk oL_requireProcess 9 rfl) (zdk oL_requireProcess 10 rfl) (zdk oL_requireProcess 11 rfl) zxC1 zxN1 zxI1 zxS186 rfl (by decide) (by decide) (⟨rfl, rfl⟩)
theorem spL_requireBetween_t (d : Nat) (h : zH) (v lo hi : Int32) (hv : v < lo ∨ hi < v) : zTP d 1 6 mL_requireBetween [.inl v, .inl lo, .inl hi] h (zX 2 h) := by
  refine ztmet (by decide +kernel) (Nat.le_of_ble_eq_true rfl) ?_
  refine r_iload_n (zdk oL_requireBetween 0 rfl) rfl rfl ?_
  refine r_iload_n (zdk oL_requireBetween 1 rfl) rfl rfl ?_
  by_cases h0 : v < lo
  · refine r_icmp_lt (tgt := 10) (zdk oL_requireBetween 2 rfl) (by decide) (fun _ => ?_) (fun q9 => absurd ((h0)) q9)
    exact r_throw (X := 2) rfl (by decide +kernel) zAt2 (by decide) (zdk oL_requireBetween 6 rfl) (zdk oL_requireBetween 7 rfl) (zdk oL_requireBetween 8 rfl) (zdk oL_requireBetween 9 rfl) (zdk oL_requireBetween 10 rfl) zxC2 zxN2 zxI2 zxS188 rfl (by decide) (by decide) (⟨rfl, rfl⟩)
  · refine r_icmp_lt (tgt := 10) (zdk oL_requireBetween 2 rfl) (by decide) (fun q9 => absurd q9 ((h0))) (fun _ => ?_)
    refine r_iload_n (zdk oL_requireBetween 3 rfl) rfl rfl ?_
    refine r_iload_n (zdk oL_requireBetween 4 rfl) rfl rfl ?_
    refine r_icmp_le (tgt := 20) (zdk oL_requireBetween 5 rfl) (by decide) (fun q9 => absurd q9 ((Int32.not_le.mpr (hv.resolve_left h0)))) (fun _ => ?_)
    exact r_throw (X := 2) rfl (by decide +kernel) zAt2 (by decide) (zdk oL_requireBetween 6 rfl) (zdk oL_requireBetween 7 rfl) (zdk oL_requireBetween 8 rfl) (zdk oL_requireBetween 9 rfl) (zdk oL_requireBetween 10 rfl) zxC2 zxN2 zxI2 zxS188 rfl (by decide) (by decide) (⟨rfl, rfl⟩)
theorem spL_word_t (d : Nat) (h : zH) (w : Int32) (hs : h.1 1 3 = nI 400) : zTP d 1 6 mL_word [.inr (.inr 0), .inl w] h (zX 0 h) := by
  refine ztmet (by decide +kernel) (Nat.le_of_ble_eq_true rfl) ?_
  refine r_aload_n (zdk oL_word 0 rfl) rfl rfl ?_
  refine r_getr (kf := 0) (zdk oL_word 1 rfl) rfl rfl (by decide) lF_L_10 rfl ?_
  refine r_geti (kf := 3) (zdk oL_word 2 rfl) rfl rfl (by decide) lF_L_36 rfl ?_
  refine r_sipush (v := 400) (zdk oL_word 3 rfl) (by decide) ?_
  rw [hs]
  refine r_icmp_ne (tgt := 23) (zdk oL_word 4 rfl) (by decide) (fun q9 => absurd ((rfl)) q9) (fun _ => ?_)
  exact r_throw (X := 0) rfl (by decide +kernel) zAt0 (by decide) (zdk oL_word 5 rfl) (zdk oL_word 6 rfl) (zdk oL_word 7 rfl) (zdk oL_word 8 rfl) (zdk oL_word 9 rfl) zxC0 zxN0 zxI0 zxS42 rfl (by decide) (by decide) (⟨rfl, rfl⟩)
theorem spL_builtin_t (d : Nat) (h : zH) (v : Int32) (hv : v < 0 ∨ 2 < v) : zTP d 1 6 mL_builtin [.inr (.inr 0), .inl v] h (zX 1 h) := by
  refine ztmet (by decide +kernel) (Nat.le_of_ble_eq_true rfl) ?_
  refine r_iload_n (zdk oL_builtin 0 rfl) rfl rfl ?_
  by_cases h0 : v < 0
  · refine r_if_lt (tgt := 9) (zdk oL_builtin 1 rfl) (by decide) (fun _ => ?_) (fun q9 => absurd ((h0)) q9)
    exact r_throw (X := 1) rfl (by decide +kernel) zAt1 (by decide) (zdk oL_builtin 5 rfl) (zdk oL_builtin 6 rfl) (zdk oL_builtin 7 rfl) (zdk oL_builtin 8 rfl) (zdk oL_builtin 9 rfl) zxC1 zxN1 zxI1 zxS56 rfl (by decide) (by decide) (⟨rfl, rfl⟩)
  · refine r_if_lt (tgt := 9) (zdk oL_builtin 1 rfl) (by decide) (fun q9 => absurd q9 ((h0))) (fun _ => ?_)
    refine r_iload_n (zdk oL_builtin 2 rfl) rfl rfl ?_
    refine r_iconst (v := 2) (zdk oL_builtin 3 rfl) (by decide) ?_
    refine r_icmp_le (tgt := 19) (zdk oL_builtin 4 rfl) (by decide) (fun q9 => absurd q9 ((Int32.not_le.mpr (hv.resolve_left h0)))) (fun _ => ?_)
    exact r_throw (X := 1) rfl (by decide +kernel) zAt1 (by decide) (zdk oL_builtin 5 rfl) (zdk oL_builtin 6 rfl) (zdk oL_builtin 7 rfl) (zdk oL_builtin 8 rfl) (zdk oL_builtin 9 rfl) zxC1 zxN1 zxI1 zxS56 rfl (by decide) (by decide) (⟨rfl, rfl⟩)
theorem spL_deep_t2 (d : Nat) (h : zH) (v w : Int32) (hc : h.1 1 4 = 0) : zTP (d + 1) 1 6 mL_deep [.inr (.inr 0), .inl v, .inl w] h (zX 0 h) := by
  refine ztmet (by decide +kernel) (Nat.le_of_ble_eq_true rfl) ?_
  refine r_aload_n (zdk oL_deep 0 rfl) rfl rfl ?_
  exact r_tcallV (M' := mL_requireProgram) (As := []) (st := []) (by decide +kernel) (zdk oL_deep 1 rfl) lM_L_79 vL_requireProgram rfl rfl rfl (Nat.le_of_ble_eq_true rfl) rfl (spL_requireProgram_t d h hc) (by decide) (by decide) (fun _ _ q => q)
theorem spL_deep_t1 (d : Nat) (h : zH) (v w : Int32) (hc : h.1 1 4 = fBo true) (hv : v < 0 ∨ ¬ v < h.1 1 5 ∨ w < -1 ∨ ¬ w < h.1 1 6) : zTP (d + 1) 1 6 mL_deep [.inr (.inr 0), .inl v, .inl w] h (zX 1 h) := by
  refine ztmet (by decide +kernel) (Nat.le_of_ble_eq_true rfl) ?_
  refine r_aload_n (zdk oL_deep 0 rfl) rfl rfl ?_
  refine r_callV0v (M' := mL_requireProgram) (zdk oL_deep 1 rfl) lM_L_79 vL_requireProgram rfl rfl (Nat.le_of_ble_eq_true rfl) rfl (spL_requireProgram d h hc) ?_
  refine r_iload_n (zdk oL_deep 2 rfl) rfl rfl ?_
  by_cases h0 : v < 0
  · refine r_if_lt (tgt := 35) (zdk oL_deep 3 rfl) (by decide) (fun _ => ?_) (fun q9 => absurd ((h0)) q9)
    exact r_throw (X := 1) rfl (by decide +kernel) zAt1 (by decide) (zdk oL_deep 17 rfl) (zdk oL_deep 18 rfl) (zdk oL_deep 19 rfl) (zdk oL_deep 20 rfl) (zdk oL_deep 21 rfl) zxC1 zxN1 zxI1 zxS88 rfl (by decide) (by decide) (⟨rfl, rfl⟩)
  refine r_if_lt (tgt := 35) (zdk oL_deep 3 rfl) (by decide) (fun q9 => absurd q9 ((h0))) (fun _ => ?_)
  refine r_iload_n (zdk oL_deep 4 rfl) rfl rfl ?_
  refine r_aload_n (zdk oL_deep 5 rfl) rfl rfl ?_
  refine r_getr (kf := 0) (zdk oL_deep 6 rfl) rfl rfl (by decide) lF_L_10 rfl ?_
  refine r_geti (kf := 5) (zdk oL_deep 7 rfl) rfl rfl (by decide) lF_L_82 rfl ?_
  by_cases h1 : v < h.1 1 5
  case neg =>
    refine r_icmp_ge (tgt := 35) (zdk oL_deep 8 rfl) (by decide) (fun _ => ?_) (fun q9 => absurd ((Int32.not_lt.mp h1)) q9)
    exact r_throw (X := 1) rfl (by decide +kernel) zAt1 (by decide) (zdk oL_deep 17 rfl) (zdk oL_deep 18 rfl) (zdk oL_deep 19 rfl) (zdk oL_deep 20 rfl) (zdk oL_deep 21 rfl) zxC1 zxN1 zxI1 zxS88 rfl (by decide) (by decide) (⟨rfl, rfl⟩)
  refine r_icmp_ge (tgt := 35) (zdk oL_deep 8 rfl) (by decide) (fun q9 => absurd q9 ((Int32.not_le.mpr h1))) (fun _ => ?_)
  refine r_iload_n (zdk oL_deep 9 rfl) rfl rfl ?_
  refine r_iconst (v := -1) (zdk oL_deep 10 rfl) (by decide) ?_
  by_cases h2 : w < -1
  · refine r_icmp_lt (tgt := 35) (zdk oL_deep 11 rfl) (by decide) (fun _ => ?_) (fun q9 => absurd ((h2)) q9)
    exact r_throw (X := 1) rfl (by decide +kernel) zAt1 (by decide) (zdk oL_deep 17 rfl) (zdk oL_deep 18 rfl) (zdk oL_deep 19 rfl) (zdk oL_deep 20 rfl) (zdk oL_deep 21 rfl) zxC1 zxN1 zxI1 zxS88 rfl (by decide) (by decide) (⟨rfl, rfl⟩)
  refine r_icmp_lt (tgt := 35) (zdk oL_deep 11 rfl) (by decide) (fun q9 => absurd q9 ((h2))) (fun _ => ?_)
  refine r_iload_n (zdk oL_deep 12 rfl) rfl rfl ?_
  refine r_aload_n (zdk oL_deep 13 rfl) rfl rfl ?_
  refine r_getr (kf := 0) (zdk oL_deep 14 rfl) rfl rfl (by decide) lF_L_10 rfl ?_
  refine r_geti (kf := 6) (zdk oL_deep 15 rfl) rfl rfl (by decide) lF_L_85 rfl ?_
  refine r_icmp_lt (tgt := 45) (zdk oL_deep 16 rfl) (by decide) (fun q9 => absurd q9 ((((hv.resolve_left h0).resolve_left (fun z => z h1)).resolve_left h2))) (fun _ => ?_)
  exact r_throw (X := 1) rfl (by decide +kernel) zAt1 (by decide) (zdk oL_deep 17 rfl) (zdk oL_deep 18 rfl) (zdk oL_deep 19 rfl) (zdk oL_deep 20 rfl) (zdk oL_deep 21 rfl) zxC1 zxN1 zxI1 zxS88 rfl (by decide) (by decide) (⟨rfl, rfl⟩)
theorem spL_input_t1 (d : Nat) (h : zH) (v w : Int32) (hv : v < 0 ∨ ¬ v < 7) : zTP d 1 6 mL_input [.inr (.inr 0), .inl v, .inl w] h (zX 1 h) := by
  refine ztmet (by decide +kernel) (Nat.le_of_ble_eq_true rfl) ?_
  refine r_iload_n (zdk oL_input 0 rfl) rfl rfl ?_
  by_cases h0 : v < 0
  · refine r_if_lt (tgt := 10) (zdk oL_input 1 rfl) (by decide) (fun _ => ?_) (fun q9 => absurd ((h0)) q9)
    exact r_throw (X := 1) rfl (by decide +kernel) zAt1 (by decide) (zdk oL_input 5 rfl) (zdk oL_input 6 rfl) (zdk oL_input 7 rfl) (zdk oL_input 8 rfl) (zdk oL_input 9 rfl) zxC1 zxN1 zxI1 zxS97 rfl (by decide) (by decide) (⟨rfl, rfl⟩)
  refine r_if_lt (tgt := 10) (zdk oL_input 1 rfl) (by decide) (fun q9 => absurd q9 ((h0))) (fun _ => ?_)
  refine r_iload_n (zdk oL_input 2 rfl) rfl rfl ?_
  refine r_bipush (v := 7) (zdk oL_input 3 rfl) (by decide) ?_
  refine r_icmp_lt (tgt := 20) (zdk oL_input 4 rfl) (by decide) (fun q9 => absurd q9 ((hv.resolve_left h0))) (fun _ => ?_)
  exact r_throw (X := 1) rfl (by decide +kernel) zAt1 (by decide) (zdk oL_input 5 rfl) (zdk oL_input 6 rfl) (zdk oL_input 7 rfl) (zdk oL_input 8 rfl) (zdk oL_input 9 rfl) zxC1 zxN1 zxI1 zxS97 rfl (by decide) (by decide) (⟨rfl, rfl⟩)
theorem spL_input_t2 (d : Nat) (h : zH) (v w : Int32) (h0 : ¬ v < 0) (h1 : v < 7) (hw : w < 0 ∨ 15 < w) : zTP (d + 1) 1 6 mL_input [.inr (.inr 0), .inl v, .inl w] h (zX 2 h) := by
  refine ztmet (by decide +kernel) (Nat.le_of_ble_eq_true rfl) ?_
  refine r_iload_n (zdk oL_input 0 rfl) rfl rfl ?_
  refine r_if_lt (tgt := 10) (zdk oL_input 1 rfl) (by decide) (fun q9 => absurd q9 ((h0))) (fun _ => ?_)
  refine r_iload_n (zdk oL_input 2 rfl) rfl rfl ?_
  refine r_bipush (v := 7) (zdk oL_input 3 rfl) (by decide) ?_
  refine r_icmp_lt (tgt := 20) (zdk oL_input 4 rfl) (by decide) (fun _ => ?_) (fun q9 => absurd ((h1)) q9)
  refine r_iload_n (zdk oL_input 10 rfl) rfl rfl ?_
  refine r_iconst (v := 0) (zdk oL_input 11 rfl) (by decide) ?_
  refine r_bipush (v := 15) (zdk oL_input 12 rfl) (by decide) ?_
  exact r_tcallS (M' := mL_requireBetween) (As := [_, _, _]) (st := []) (by decide +kernel) (zdk oL_input 13 rfl) lM_L_99 sL_requireBetween rfl (Nat.le_of_ble_eq_true rfl) rfl (spL_requireBetween_t d h w 0 15 hw) (by decide) (by decide) (fun _ _ q => q)
theorem spL_start_t1 (d : Nat) (h : zH) (v : Int32) (hv : v < 1 ∨ 7 < v) : zTP (d + 1) 1 6 mL_start [.inr (.inr 0), .inl v] h (zX 2 h) := by
  refine ztmet (by decide +kernel) (Nat.le_of_ble_eq_true rfl) ?_
  refine r_iload_n (zdk oL_start 0 rfl) rfl rfl ?_
  refine r_iconst (v := 1) (zdk oL_start 1 rfl) (by decide) ?_
  refine r_bipush (v := 7) (zdk oL_start 2 rfl) (by decide) ?_
  exact r_tcallS (M' := mL_requireBetween) (As := [_, _, _]) (st := []) (by decide +kernel) (zdk oL_start 3 rfl) lM_L_99 sL_requireBetween rfl (Nat.le_of_ble_eq_true rfl) rfl (spL_requireBetween_t d h v 1 7 hv) (by decide) (by decide) (fun _ _ q => q)
theorem spL_start_t2 (d : Nat) (h : zH) (v : Int32) (h1 : ¬ v < 1) (h7 : ¬ 7 < v) (hc : h.1 1 4 = 0) : zTP (d + 1) 1 6 mL_start [.inr (.inr 0), .inl v] h (zX 0 h) := by
  refine ztmet (by decide +kernel) (Nat.le_of_ble_eq_true rfl) ?_
  refine r_iload_n (zdk oL_start 0 rfl) rfl rfl ?_
  refine r_iconst (v := 1) (zdk oL_start 1 rfl) (by decide) ?_
  refine r_bipush (v := 7) (zdk oL_start 2 rfl) (by decide) ?_
  refine r_callS3v (M' := mL_requireBetween) (zdk oL_start 3 rfl) lM_L_99 sL_requireBetween (Nat.le_of_ble_eq_true rfl) rfl (spL_requireBetween d h v 1 7 h1 h7) ?_
  refine r_aload_n (zdk oL_start 4 rfl) rfl rfl ?_
  exact r_tcallV (M' := mL_requireProgram) (As := []) (st := []) (by decide +kernel) (zdk oL_start 5 rfl) lM_L_79 vL_requireProgram rfl rfl rfl (Nat.le_of_ble_eq_true rfl) rfl (spL_requireProgram_t d h hc) (by decide) (by decide) (fun _ _ q => q)
theorem spL_hear_t1 (d : Nat) (h : zH) (v w : Int32) (hv : v < 0 ∨ ¬ v < h.1 9 2) : zTP (d + 2) 1 6 mL_hear [.inr (.inr 0), .inl v, .inl w] h (zX 1 h) := by
  refine ztmet (by decide +kernel) (Nat.le_of_ble_eq_true rfl) ?_
  refine r_aload_n (zdk oL_hear 0 rfl) rfl rfl ?_
  refine r_iload_n (zdk oL_hear 1 rfl) rfl rfl ?_
  exact r_tcallV (M' := mL_requireProcess) (As := [_]) (st := []) (by decide +kernel) (zdk oL_hear 2 rfl) lM_L_107 vL_requireProcess rfl rfl rfl (Nat.le_of_ble_eq_true rfl) rfl (spL_requireProcess_t d h v hv) (by decide) (by decide) (fun _ _ q => q)
theorem spL_hear_t2 (d : Nat) (h : zH) (k np : Nat) (s : Int32) (hp : h.1 9 2 = nI np) (hk : k < np) (np7 : np ≤ 7) (hs : s &&& (nI (2 ^ np - 1) ^^^ -1) ≠ 0) : zTP (d + 2) 1 6 mL_hear [.inr (.inr 0), .inl (nI k), .inl s] h (zX 2 h) := by
  refine ztmet (by decide +kernel) (Nat.le_of_ble_eq_true rfl) ?_
  refine r_aload_n (zdk oL_hear 0 rfl) rfl rfl ?_
  refine r_iload_n (zdk oL_hear 1 rfl) rfl rfl ?_
  refine r_callV1v (M' := mL_requireProcess) (zdk oL_hear 2 rfl) lM_L_107 vL_requireProcess rfl rfl (Nat.le_of_ble_eq_true rfl) rfl (spL_requireProcess d h k np hp hk np7) ?_
  refine r_iload_n (zdk oL_hear 3 rfl) rfl rfl ?_
  refine r_aload_n (zdk oL_hear 4 rfl) rfl rfl ?_
  refine r_getr (kf := 2) (zdk oL_hear 5 rfl) rfl rfl (by decide) lF_L_25 rfl ?_
  refine r_callV0i (M' := mR_all) (zdk oL_hear 6 rfl) lM_L_110 vR_all rfl rfl (Nat.le_of_ble_eq_true rfl) rfl (spR_all (d + 1) h np hp np7) ?_
  refine r_iconst (v := -1) (zdk oL_hear 7 rfl) (by decide) ?_
  refine r_ixor (zdk oL_hear 8 rfl) ?_
  refine r_iand (zdk oL_hear 9 rfl) ?_
  refine r_if_eq (tgt := 29) (zdk oL_hear 10 rfl) (by decide) (fun q9 => absurd q9 ((hs))) (fun _ => ?_)
  exact r_throw (X := 2) rfl (by decide +kernel) zAt2 (by decide) (zdk oL_hear 11 rfl) (zdk oL_hear 12 rfl) (zdk oL_hear 13 rfl) (zdk oL_hear 14 rfl) (zdk oL_hear 15 rfl) zxC2 zxN2 zxI2 zxS115 rfl (by decide) (by decide) (⟨rfl, rfl⟩)
theorem spL_round_t (d : Nat) (h : zH) (hv : h.1 9 2 = 0 ∨ h.1 6 2 = 60) : zTP (d + 1) 1 6 mL_round [.inr (.inr 0)] h (zX 0 h) := by
  refine ztmet (by decide +kernel) (Nat.le_of_ble_eq_true rfl) ?_
  refine r_aload_n (zdk oL_round 0 rfl) rfl rfl ?_
  refine r_getr (kf := 2) (zdk oL_round 1 rfl) rfl rfl (by decide) lF_L_25 rfl ?_
  refine r_callV0i (M' := mR_processes) (zdk oL_round 2 rfl) lM_L_121 vR_processes rfl rfl (Nat.le_of_ble_eq_true rfl) rfl (spR_processes d h) ?_
  by_cases h0 : h.1 9 2 = 0
  · refine r_if_eq (tgt := 22) (zdk oL_round 3 rfl) (by decide) (fun _ => ?_) (fun q9 => absurd ((h0)) q9)
    exact r_throw (X := 0) rfl (by decide +kernel) zAt0 (by decide) (zdk oL_round 9 rfl) (zdk oL_round 10 rfl) (zdk oL_round 11 rfl) (zdk oL_round 12 rfl) (zdk oL_round 13 rfl) zxC0 zxN0 zxI0 zxS127 rfl (by decide) (by decide) (⟨rfl, rfl⟩)
  refine r_if_eq (tgt := 22) (zdk oL_round 3 rfl) (by decide) (fun q9 => absurd q9 ((h0))) (fun _ => ?_)
  refine r_aload_n (zdk oL_round 4 rfl) rfl rfl ?_
  refine r_getr (kf := 2) (zdk oL_round 5 rfl) rfl rfl (by decide) lF_L_25 rfl ?_
  refine r_geti (kf := 2) (zdk oL_round 6 rfl) rfl rfl (by decide) lF_L_124 rfl ?_
  refine r_bipush (v := 60) (zdk oL_round 7 rfl) (by decide) ?_
  refine r_icmp_ne (tgt := 32) (zdk oL_round 8 rfl) (by decide) (fun q9 => absurd ((hv.resolve_left h0)) q9) (fun _ => ?_)
  exact r_throw (X := 0) rfl (by decide +kernel) zAt0 (by decide) (zdk oL_round 9 rfl) (zdk oL_round 10 rfl) (zdk oL_round 11 rfl) (zdk oL_round 12 rfl) (zdk oL_round 13 rfl) zxC0 zxN0 zxI0 zxS127 rfl (by decide) (by decide) (⟨rfl, rfl⟩)
theorem spL_state_t1 (d : Nat) (h : zH) (v w : Int32) (hv : v < 0 ∨ ¬ v < h.1 9 2) : zTP (d + 2) 1 6 mL_state [.inr (.inr 0), .inl v, .inl w] h (zX 1 h) := by
  refine ztmet (by decide +kernel) (Nat.le_of_ble_eq_true rfl) ?_
  refine r_aload_n (zdk oL_state 0 rfl) rfl rfl ?_
  refine r_iload_n (zdk oL_state 1 rfl) rfl rfl ?_
  exact r_tcallV (M' := mL_requireProcess) (As := [_]) (st := []) (by decide +kernel) (zdk oL_state 2 rfl) lM_L_107 vL_requireProcess rfl rfl rfl (Nat.le_of_ble_eq_true rfl) rfl (spL_requireProcess_t d h v hv) (by decide) (by decide) (fun _ _ q => q)
theorem spL_state_t2 (d : Nat) (h : zH) (k np : Nat) (w : Int32) (hp : h.1 9 2 = nI np) (hk : k < np) (np7 : np ≤ 7) (hw : w < 0 ∨ ¬ w < h.1 1 6) : zTP (d + 2) 1 6 mL_state [.inr (.inr 0), .inl (nI k), .inl w] h (zX 1 h) := by
  refine ztmet (by decide +kernel) (Nat.le_of_ble_eq_true rfl) ?_
  refine r_aload_n (zdk oL_state 0 rfl) rfl rfl ?_
  refine r_iload_n (zdk oL_state 1 rfl) rfl rfl ?_
  refine r_callV1v (M' := mL_requireProcess) (zdk oL_state 2 rfl) lM_L_107 vL_requireProcess rfl rfl (Nat.le_of_ble_eq_true rfl) rfl (spL_requireProcess d h k np hp hk np7) ?_
  refine r_iload_n (zdk oL_state 3 rfl) rfl rfl ?_
  by_cases h0 : w < 0
  · refine r_if_lt (tgt := 20) (zdk oL_state 4 rfl) (by decide) (fun _ => ?_) (fun q9 => absurd ((h0)) q9)
    exact r_throw (X := 1) rfl (by decide +kernel) zAt1 (by decide) (zdk oL_state 10 rfl) (zdk oL_state 11 rfl) (zdk oL_state 12 rfl) (zdk oL_state 13 rfl) (zdk oL_state 14 rfl) zxC1 zxN1 zxI1 zxS132 rfl (by decide) (by decide) (⟨rfl, rfl⟩)
  refine r_if_lt (tgt := 20) (zdk oL_state 4 rfl) (by decide) (fun q9 => absurd q9 ((h0))) (fun _ => ?_)
  refine r_iload_n (zdk oL_state 5 rfl) rfl rfl ?_
  refine r_aload_n (zdk oL_state 6 rfl) rfl rfl ?_
  refine r_getr (kf := 0) (zdk oL_state 7 rfl) rfl rfl (by decide) lF_L_10 rfl ?_
  refine r_geti (kf := 6) (zdk oL_state 8 rfl) rfl rfl (by decide) lF_L_85 rfl ?_
  refine r_icmp_lt (tgt := 30) (zdk oL_state 9 rfl) (by decide) (fun q9 => absurd q9 ((hw.resolve_left h0))) (fun _ => ?_)
  exact r_throw (X := 1) rfl (by decide +kernel) zAt1 (by decide) (zdk oL_state 10 rfl) (zdk oL_state 11 rfl) (zdk oL_state 12 rfl) (zdk oL_state 13 rfl) (zdk oL_state 14 rfl) zxC1 zxN1 zxI1 zxS132 rfl (by decide) (by decide) (⟨rfl, rfl⟩)
theorem spL_decided_t (d : Nat) (h : zH) (v : Int32) (hv : v < 0 ∨ ¬ v < h.1 9 2) : zTP (d + 2) 1 6 mL_decided [.inr (.inr 0), .inl v] h (zX 1 h) := by
  refine ztmet (by decide +kernel) (Nat.le_of_ble_eq_true rfl) ?_
  refine r_aload_n (zdk oL_decided 0 rfl) rfl rfl ?_
  refine r_iload_n (zdk oL_decided 1 rfl) rfl rfl ?_
  exact r_tcallV (M' := mL_requireProcess) (As := [_]) (st := []) (by decide +kernel) (zdk oL_decided 2 rfl) lM_L_107 vL_requireProcess rfl rfl rfl (Nat.le_of_ble_eq_true rfl) rfl (spL_requireProcess_t d h v hv) (by decide) (by decide) (fun _ _ q => q)
theorem spL_message_t (d : Nat) (h : zH) (v : Int32) (hv : v < 0 ∨ ¬ v < h.1 9 2) : zTP (d + 2) 1 6 mL_message [.inr (.inr 0), .inl v] h (zX 1 h) := by
  refine ztmet (by decide +kernel) (Nat.le_of_ble_eq_true rfl) ?_
  refine r_aload_n (zdk oL_message 0 rfl) rfl rfl ?_
  refine r_iload_n (zdk oL_message 1 rfl) rfl rfl ?_
  exact r_tcallV (M' := mL_requireProcess) (As := [_]) (st := []) (by decide +kernel) (zdk oL_message 2 rfl) lM_L_107 vL_requireProcess rfl rfl rfl (Nat.le_of_ble_eq_true rfl) rfl (spL_requireProcess_t d h v hv) (by decide) (by decide) (fun _ _ q => q)
theorem spL_explore_t1 (d : Nat) (h : zH) (a b c k : Int32) (hv : (a < 1 ∨ 3 < a) ∨ (b < 0 ∨ 5 < b) ∨ (c < 1 ∨ 3 < c) ∨ (k < 0 ∨ 3 < k)) : zTP (d + 1) 1 6 mL_explore [.inr (.inr 0), .inl a, .inl b, .inl c, .inl k] h (zX 2 h) := by
  refine ztmet (by decide +kernel) (Nat.le_of_ble_eq_true rfl) ?_
  refine r_iload_n (zdk oL_explore 0 rfl) rfl rfl ?_
  refine r_iconst (v := 1) (zdk oL_explore 1 rfl) (by decide) ?_
  refine r_iconst (v := 3) (zdk oL_explore 2 rfl) (by decide) ?_
  by_cases ha : a < 1 ∨ 3 < a
  · exact r_tcallS (M' := mL_requireBetween) (As := [_, _, _]) (st := []) (by decide +kernel) (zdk oL_explore 3 rfl) lM_L_99 sL_requireBetween rfl (Nat.le_of_ble_eq_true rfl) rfl (spL_requireBetween_t d h a 1 3 ha) (by decide) (by decide) (fun _ _ q => q)
  refine r_callS3v (M' := mL_requireBetween) (zdk oL_explore 3 rfl) lM_L_99 sL_requireBetween (Nat.le_of_ble_eq_true rfl) rfl (spL_requireBetween d h a 1 3 (fun z => ha (Or.inl z)) (fun z => ha (Or.inr z))) ?_
  refine r_iload_n (zdk oL_explore 4 rfl) rfl rfl ?_
  refine r_iconst (v := 0) (zdk oL_explore 5 rfl) (by decide) ?_
  refine r_iconst (v := 5) (zdk oL_explore 6 rfl) (by decide) ?_
  by_cases hb : b < 0 ∨ 5 < b
  · exact r_tcallS (M' := mL_requireBetween) (As := [_, _, _]) (st := []) (by decide +kernel) (zdk oL_explore 7 rfl) lM_L_99 sL_requireBetween rfl (Nat.le_of_ble_eq_true rfl) rfl (spL_requireBetween_t d h b 0 5 hb) (by decide) (by decide) (fun _ _ q => q)
  refine r_callS3v (M' := mL_requireBetween) (zdk oL_explore 7 rfl) lM_L_99 sL_requireBetween (Nat.le_of_ble_eq_true rfl) rfl (spL_requireBetween d h b 0 5 (fun z => hb (Or.inl z)) (fun z => hb (Or.inr z))) ?_
  refine r_iload_n (zdk oL_explore 8 rfl) rfl rfl ?_
  refine r_iconst (v := 1) (zdk oL_explore 9 rfl) (by decide) ?_
  refine r_iconst (v := 3) (zdk oL_explore 10 rfl) (by decide) ?_
  by_cases hc : c < 1 ∨ 3 < c
  · exact r_tcallS (M' := mL_requireBetween) (As := [_, _, _]) (st := []) (by decide +kernel) (zdk oL_explore 11 rfl) lM_L_99 sL_requireBetween rfl (Nat.le_of_ble_eq_true rfl) rfl (spL_requireBetween_t d h c 1 3 hc) (by decide) (by decide) (fun _ _ q => q)
  refine r_callS3v (M' := mL_requireBetween) (zdk oL_explore 11 rfl) lM_L_99 sL_requireBetween (Nat.le_of_ble_eq_true rfl) rfl (spL_requireBetween d h c 1 3 (fun z => hc (Or.inl z)) (fun z => hc (Or.inr z))) ?_
  refine r_iload (zdk oL_explore 12 rfl) rfl ?_
  refine r_iconst (v := 0) (zdk oL_explore 13 rfl) (by decide) ?_
  refine r_iconst (v := 3) (zdk oL_explore 14 rfl) (by decide) ?_
  exact r_tcallS (M' := mL_requireBetween) (As := [_, _, _]) (st := []) (by decide +kernel) (zdk oL_explore 15 rfl) lM_L_99 sL_requireBetween rfl (Nat.le_of_ble_eq_true rfl) rfl (spL_requireBetween_t d h k 0 3 (((hv.resolve_left ha).resolve_left hb).resolve_left hc)) (by decide) (by decide) (fun _ _ q => q)
theorem spL_explore_t2 (d : Nat) (h : zH) (a b c k : Int32) (ha : ¬ (a < 1 ∨ 3 < a)) (hb : ¬ (b < 0 ∨ 5 < b)) (hc : ¬ (c < 1 ∨ 3 < c)) (hk : ¬ (k < 0 ∨ 3 < k)) (h4 : h.1 1 4 = 0) : zTP (d + 1) 1 6 mL_explore [.inr (.inr 0), .inl a, .inl b, .inl c, .inl k] h (zX 0 h) := by
  refine ztmet (by decide +kernel) (Nat.le_of_ble_eq_true rfl) ?_
  refine r_iload_n (zdk oL_explore 0 rfl) rfl rfl ?_
  refine r_iconst (v := 1) (zdk oL_explore 1 rfl) (by decide) ?_
  refine r_iconst (v := 3) (zdk oL_explore 2 rfl) (by decide) ?_
  refine r_callS3v (M' := mL_requireBetween) (zdk oL_explore 3 rfl) lM_L_99 sL_requireBetween (Nat.le_of_ble_eq_true rfl) rfl (spL_requireBetween d h a 1 3 (fun z => ha (Or.inl z)) (fun z => ha (Or.inr z))) ?_
  refine r_iload_n (zdk oL_explore 4 rfl) rfl rfl ?_
  refine r_iconst (v := 0) (zdk oL_explore 5 rfl) (by decide) ?_
  refine r_iconst (v := 5) (zdk oL_explore 6 rfl) (by decide) ?_
  refine r_callS3v (M' := mL_requireBetween) (zdk oL_explore 7 rfl) lM_L_99 sL_requireBetween (Nat.le_of_ble_eq_true rfl) rfl (spL_requireBetween d h b 0 5 (fun z => hb (Or.inl z)) (fun z => hb (Or.inr z))) ?_
  refine r_iload_n (zdk oL_explore 8 rfl) rfl rfl ?_
  refine r_iconst (v := 1) (zdk oL_explore 9 rfl) (by decide) ?_
  refine r_iconst (v := 3) (zdk oL_explore 10 rfl) (by decide) ?_
  refine r_callS3v (M' := mL_requireBetween) (zdk oL_explore 11 rfl) lM_L_99 sL_requireBetween (Nat.le_of_ble_eq_true rfl) rfl (spL_requireBetween d h c 1 3 (fun z => hc (Or.inl z)) (fun z => hc (Or.inr z))) ?_
  refine r_iload (zdk oL_explore 12 rfl) rfl ?_
  refine r_iconst (v := 0) (zdk oL_explore 13 rfl) (by decide) ?_
  refine r_iconst (v := 3) (zdk oL_explore 14 rfl) (by decide) ?_
  refine r_callS3v (M' := mL_requireBetween) (zdk oL_explore 15 rfl) lM_L_99 sL_requireBetween (Nat.le_of_ble_eq_true rfl) rfl (spL_requireBetween d h k 0 3 (fun z => hk (Or.inl z)) (fun z => hk (Or.inr z))) ?_
  refine r_aload_n (zdk oL_explore 16 rfl) rfl rfl ?_
  exact r_tcallV (M' := mL_requireProgram) (As := []) (st := []) (by decide +kernel) (zdk oL_explore 17 rfl) lM_L_79 vL_requireProgram rfl rfl rfl (Nat.le_of_ble_eq_true rfl) rfl (spL_requireProgram_t d h h4) (by decide) (by decide) (fun _ _ q => q)
theorem spL_trace_t (d : Nat) (h : zH) (v : Int32) (hv : v < 0 ∨ ¬ v < h.1 14 2) : zTP d 1 6 mL_trace [.inr (.inr 0), .inl v] h (zX 1 h) := by
  refine ztmet (by decide +kernel) (Nat.le_of_ble_eq_true rfl) ?_
  refine r_iload_n (zdk oL_trace 0 rfl) rfl rfl ?_
  by_cases h0 : v < 0
  · refine r_if_lt (tgt := 15) (zdk oL_trace 1 rfl) (by decide) (fun _ => ?_) (fun q9 => absurd ((h0)) q9)
    exact r_throw (X := 1) rfl (by decide +kernel) zAt1 (by decide) (zdk oL_trace 7 rfl) (zdk oL_trace 8 rfl) (zdk oL_trace 9 rfl) (zdk oL_trace 10 rfl) (zdk oL_trace 11 rfl) zxC1 zxN1 zxI1 zxS162 rfl (by decide) (by decide) (⟨rfl, rfl⟩)
  refine r_if_lt (tgt := 15) (zdk oL_trace 1 rfl) (by decide) (fun q9 => absurd q9 ((h0))) (fun _ => ?_)
  refine r_iload_n (zdk oL_trace 2 rfl) rfl rfl ?_
  refine r_aload_n (zdk oL_trace 3 rfl) rfl rfl ?_
  refine r_getr (kf := 3) (zdk oL_trace 4 rfl) rfl rfl (by decide) lF_L_32 rfl ?_
  refine r_geti (kf := 2) (zdk oL_trace 5 rfl) rfl rfl (by decide) lF_L_159 rfl ?_
  refine r_icmp_lt (tgt := 25) (zdk oL_trace 6 rfl) (by decide) (fun q9 => absurd q9 ((hv.resolve_left h0))) (fun _ => ?_)
  exact r_throw (X := 1) rfl (by decide +kernel) zAt1 (by decide) (zdk oL_trace 7 rfl) (zdk oL_trace 8 rfl) (zdk oL_trace 9 rfl) (zdk oL_trace 10 rfl) (zdk oL_trace 11 rfl) zxC1 zxN1 zxI1 zxS162 rfl (by decide) (by decide) (⟨rfl, rfl⟩)
theorem spL_at_t (d : Nat) (h : zH) (v : Int32) (hv : v < 0 ∨ ¬ v < h.1 1 3) : zTP d 1 6 mL_at [.inr (.inr 0), .inl v] h (zX 1 h) := by
  refine ztmet (by decide +kernel) (Nat.le_of_ble_eq_true rfl) ?_
  refine r_iload_n (zdk oL_at 0 rfl) rfl rfl ?_
  by_cases h0 : v < 0
  · refine r_if_lt (tgt := 15) (zdk oL_at 1 rfl) (by decide) (fun _ => ?_) (fun q9 => absurd ((h0)) q9)
    exact r_throw (X := 1) rfl (by decide +kernel) zAt1 (by decide) (zdk oL_at 7 rfl) (zdk oL_at 8 rfl) (zdk oL_at 9 rfl) (zdk oL_at 10 rfl) (zdk oL_at 11 rfl) zxC1 zxN1 zxI1 zxS167 rfl (by decide) (by decide) (⟨rfl, rfl⟩)
  refine r_if_lt (tgt := 15) (zdk oL_at 1 rfl) (by decide) (fun q9 => absurd q9 ((h0))) (fun _ => ?_)
  refine r_iload_n (zdk oL_at 2 rfl) rfl rfl ?_
  refine r_aload_n (zdk oL_at 3 rfl) rfl rfl ?_
  refine r_getr (kf := 0) (zdk oL_at 4 rfl) rfl rfl (by decide) lF_L_10 rfl ?_
  refine r_geti (kf := 3) (zdk oL_at 5 rfl) rfl rfl (by decide) lF_L_36 rfl ?_
  refine r_icmp_lt (tgt := 25) (zdk oL_at 6 rfl) (by decide) (fun q9 => absurd q9 ((hv.resolve_left h0))) (fun _ => ?_)
  exact r_throw (X := 1) rfl (by decide +kernel) zAt1 (by decide) (zdk oL_at 7 rfl) (zdk oL_at 8 rfl) (zdk oL_at 9 rfl) (zdk oL_at 10 rfl) (zdk oL_at 11 rfl) zxC1 zxN1 zxI1 zxS167 rfl (by decide) (by decide) (⟨rfl, rfl⟩)
theorem spL_count_t (d : Nat) (h : zH) (v : Int32) (hv : v.toInt < 0 ∨ 5 < v.toInt) : zTP d 1 6 mL_count [.inr (.inr 0), .inl v] h (zX 2 h) := by
  refine ztmet (by decide +kernel) (Nat.le_of_ble_eq_true rfl) ?_
  refine r_iload_n (zdk oL_count 0 rfl) rfl rfl ?_
  refine r_tabOut (tgt := 96) (zdk oL_count 1 rfl) (by omega) (by decide) ?_
  exact r_throw (X := 2) rfl (by decide +kernel) zAt2 (by decide) (zdk oL_count 30 rfl) (zdk oL_count 31 rfl) (zdk oL_count 32 rfl) (zdk oL_count 33 rfl) (zdk oL_count 34 rfl) zxC2 zxN2 zxI2 zxS182 rfl (by decide) (by decide) (⟨rfl, rfl⟩)
