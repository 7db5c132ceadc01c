/-! the law's methods that call the class: what they answer, by what the class does -/
theorem spZ_word (d : Nat) (h : zH) (a0 : Int32) (K' : zR → zH → Prop) (hsp : zSP d 0 0 mL_word [.inr (.inr 0), .inl a0] h K') (hK : ∀ r h', K' (.inl r) h' → ∃ a, r = some (.inl a)) : zSW (d + 1) 1 6 mZ_word [.inr (.inr 0), .inl a0, .inr (.inr 47)] h (fun r h' => r = .inl (some (.inl 0)) ∧ ∃ a h1, K' (.inl (some (.inl a))) h1 ∧ h' = zputL h1 47 0 a.toInt64) := by
  refine zmetW (by decide +kernel) (Nat.le_of_ble_eq_true rfl) ?_
  refine r_aload_n (zdk oZ_word 0 rfl) rfl rfl ?_
  refine r_iconst (v := 0) (zdk oZ_word 1 rfl) (by decide) ?_
  refine r_aload_n (zdk oZ_word 2 rfl) rfl rfl ?_
  refine r_iload_n (zdk oZ_word 3 rfl) rfl rfl ?_
  refine r_callV1 (M' := mL_word) (zdk oZ_word 4 rfl) lM_Z_7 vL_word rfl rfl (Nat.le_of_ble_eq_true rfl) rfl (hsp) ?_
  intro r h1 q
  obtain ⟨a, e⟩ := hK r h1 q
  subst e
  refine r_i2l (zdk oZ_word 5 rfl) ?_
  refine r_last (zdk oZ_word 6 rfl) rfl (show vp_in 0 1 from fun z => z.elim (by decide) (by decide)) ?_
  refine r_goto (tgt := 15) (zdk oZ_word 7 rfl) (by decide) ?_
  refine r_iconst (v := 0) (zdk oZ_word 11 rfl) (by decide) ?_
  refine r_iret (zdk oZ_word 12 rfl) rfl ?_
  exact ⟨rfl, a, h1, q, rfl⟩
theorem spZ_word_x0 (d : Nat) (h : zH) (a0 : Int32) (hsp : zTP d 1 6 mL_word [.inr (.inr 0), .inl a0] h (zX 0 h)) : zSW (d + 1) 1 6 mZ_word [.inr (.inr 0), .inl a0, .inr (.inr 47)] h (zI 1 h) := by
  refine zmetW (by decide +kernel) (Nat.le_of_ble_eq_true rfl) ?_
  refine r_aload_n (zdk oZ_word 0 rfl) rfl rfl ?_
  refine r_iconst (v := 0) (zdk oZ_word 1 rfl) (by decide) ?_
  refine r_aload_n (zdk oZ_word 2 rfl) rfl rfl ?_
  refine r_iload_n (zdk oZ_word 3 rfl) rfl rfl ?_
  refine r_catchV (M' := mL_word) (As := [_]) (st := _) rfl (zdk oZ_word 4 rfl) lM_Z_7 vL_word rfl rfl rfl (Nat.le_of_ble_eq_true rfl) rfl (hsp) (by decide) (by decide) ?_
  intro X9 h9 q9
  obtain ⟨e1, e2⟩ := q9
  cases e1
  subst e2
  refine ⟨by decide, 12, 1, by decide, Or.inl ⟨3, (zdk oZ_word 8 rfl), rfl, Nat.le_of_ble_eq_true rfl⟩, ?_⟩
  refine r_iconst (v := 1) (zdk oZ_word 9 rfl) (by decide) ?_
  refine r_iret (zdk oZ_word 10 rfl) rfl ?_
  exact zIi rfl
theorem spZ_builtin (d : Nat) (h : zH) (a0 : Int32) (K' : zR → zH → Prop) (hsp : zSP d 0 0 mL_builtin [.inr (.inr 0), .inl a0] h K') (hK : ∀ r h', K' (.inl r) h' → ∃ a, r = some (.inl a)) : zSW (d + 1) 1 6 mZ_builtin [.inr (.inr 0), .inl a0, .inr (.inr 47)] h (fun r h' => r = .inl (some (.inl 0)) ∧ ∃ a h1, K' (.inl (some (.inl a))) h1 ∧ h' = zputL h1 47 0 a.toInt64) := by
  refine zmetW (by decide +kernel) (Nat.le_of_ble_eq_true rfl) ?_
  refine r_aload_n (zdk oZ_builtin 0 rfl) rfl rfl ?_
  refine r_iconst (v := 0) (zdk oZ_builtin 1 rfl) (by decide) ?_
  refine r_aload_n (zdk oZ_builtin 2 rfl) rfl rfl ?_
  refine r_iload_n (zdk oZ_builtin 3 rfl) rfl rfl ?_
  refine r_callV1 (M' := mL_builtin) (zdk oZ_builtin 4 rfl) lM_Z_15 vL_builtin rfl rfl (Nat.le_of_ble_eq_true rfl) rfl (hsp) ?_
  intro r h1 q
  obtain ⟨a, e⟩ := hK r h1 q
  subst e
  refine r_i2l (zdk oZ_builtin 5 rfl) ?_
  refine r_last (zdk oZ_builtin 6 rfl) rfl (show vp_in 0 1 from fun z => z.elim (by decide) (by decide)) ?_
  refine r_goto (tgt := 15) (zdk oZ_builtin 7 rfl) (by decide) ?_
  refine r_iconst (v := 0) (zdk oZ_builtin 11 rfl) (by decide) ?_
  refine r_iret (zdk oZ_builtin 12 rfl) rfl ?_
  exact ⟨rfl, a, h1, q, rfl⟩
theorem spZ_builtin_x1 (d : Nat) (h : zH) (a0 : Int32) (hsp : zTP d 1 6 mL_builtin [.inr (.inr 0), .inl a0] h (zX 1 h)) : zSW (d + 1) 1 6 mZ_builtin [.inr (.inr 0), .inl a0, .inr (.inr 47)] h (zI 1 h) := by
  refine zmetW (by decide +kernel) (Nat.le_of_ble_eq_true rfl) ?_
  refine r_aload_n (zdk oZ_builtin 0 rfl) rfl rfl ?_
  refine r_iconst (v := 0) (zdk oZ_builtin 1 rfl) (by decide) ?_
  refine r_aload_n (zdk oZ_builtin 2 rfl) rfl rfl ?_
  refine r_iload_n (zdk oZ_builtin 3 rfl) rfl rfl ?_
  refine r_catchV (M' := mL_builtin) (As := [_]) (st := _) rfl (zdk oZ_builtin 4 rfl) lM_Z_15 vL_builtin rfl rfl rfl (Nat.le_of_ble_eq_true rfl) rfl (hsp) (by decide) (by decide) ?_
  intro X9 h9 q9
  obtain ⟨e1, e2⟩ := q9
  cases e1
  subst e2
  refine ⟨by decide, 12, 1, by decide, Or.inl ⟨3, (zdk oZ_builtin 8 rfl), rfl, Nat.le_of_ble_eq_true rfl⟩, ?_⟩
  refine r_iconst (v := 1) (zdk oZ_builtin 9 rfl) (by decide) ?_
  refine r_iret (zdk oZ_builtin 10 rfl) rfl ?_
  exact zIi rfl
theorem spZ_deep (d : Nat) (h : zH) (a0 a1 : Int32) (K' : zR → zH → Prop) (hsp : zSP d 0 0 mL_deep [.inr (.inr 0), .inl a0, .inl a1] h K') (hK : ∀ r h', K' (.inl r) h' → ∃ a, r = some (.inl a)) : zSW (d + 1) 1 6 mZ_deep [.inr (.inr 0), .inl a0, .inl a1, .inr (.inr 47)] h (fun r h' => r = .inl (some (.inl 0)) ∧ ∃ a h1, K' (.inl (some (.inl a))) h1 ∧ h' = zputL h1 47 0 a.toInt64) := by
  refine zmetW (by decide +kernel) (Nat.le_of_ble_eq_true rfl) ?_
  refine r_aload_n (zdk oZ_deep 0 rfl) rfl rfl ?_
  refine r_iconst (v := 0) (zdk oZ_deep 1 rfl) (by decide) ?_
  refine r_aload_n (zdk oZ_deep 2 rfl) rfl rfl ?_
  refine r_iload_n (zdk oZ_deep 3 rfl) rfl rfl ?_
  refine r_iload_n (zdk oZ_deep 4 rfl) rfl rfl ?_
  refine r_callV2 (M' := mL_deep) (zdk oZ_deep 5 rfl) lM_Z_20 vL_deep rfl rfl (Nat.le_of_ble_eq_true rfl) rfl (hsp) ?_
  intro r h1 q
  obtain ⟨a, e⟩ := hK r h1 q
  subst e
  refine r_i2l (zdk oZ_deep 6 rfl) ?_
  refine r_last (zdk oZ_deep 7 rfl) rfl (show vp_in 0 1 from fun z => z.elim (by decide) (by decide)) ?_
  refine r_goto (tgt := 21) (zdk oZ_deep 8 rfl) (by decide) ?_
  refine r_iconst (v := 0) (zdk oZ_deep 15 rfl) (by decide) ?_
  refine r_iret (zdk oZ_deep 16 rfl) rfl ?_
  exact ⟨rfl, a, h1, q, rfl⟩
theorem spZ_deep_x1 (d : Nat) (h : zH) (a0 a1 : Int32) (hsp : zTP d 1 6 mL_deep [.inr (.inr 0), .inl a0, .inl a1] h (zX 1 h)) : zSW (d + 1) 1 6 mZ_deep [.inr (.inr 0), .inl a0, .inl a1, .inr (.inr 47)] h (zI 1 h) := by
  refine zmetW (by decide +kernel) (Nat.le_of_ble_eq_true rfl) ?_
  refine r_aload_n (zdk oZ_deep 0 rfl) rfl rfl ?_
  refine r_iconst (v := 0) (zdk oZ_deep 1 rfl) (by decide) ?_
  refine r_aload_n (zdk oZ_deep 2 rfl) rfl rfl ?_
  refine r_iload_n (zdk oZ_deep 3 rfl) rfl rfl ?_
  refine r_iload_n (zdk oZ_deep 4 rfl) rfl rfl ?_
  refine r_catchV (M' := mL_deep) (As := [_, _]) (st := _) rfl (zdk oZ_deep 5 rfl) lM_Z_20 vL_deep rfl rfl rfl (Nat.le_of_ble_eq_true rfl) rfl (hsp) (by decide) (by decide) ?_
  intro X9 h9 q9
  obtain ⟨e1, e2⟩ := q9
  cases e1
  subst e2
  refine ⟨by decide, 13, 2, by decide, Or.inr ⟨4, (zdk oZ_deep 9 rfl), rfl, Nat.le_of_ble_eq_true rfl⟩, ?_⟩
  refine r_iconst (v := 1) (zdk oZ_deep 10 rfl) (by decide) ?_
  refine r_iret (zdk oZ_deep 11 rfl) rfl ?_
  exact zIi rfl
theorem spZ_deep_x0 (d : Nat) (h : zH) (a0 a1 : Int32) (hsp : zTP d 1 6 mL_deep [.inr (.inr 0), .inl a0, .inl a1] h (zX 0 h)) : zSW (d + 1) 1 6 mZ_deep [.inr (.inr 0), .inl a0, .inl a1, .inr (.inr 47)] h (zI 2 h) := by
  refine zmetW (by decide +kernel) (Nat.le_of_ble_eq_true rfl) ?_
  refine r_aload_n (zdk oZ_deep 0 rfl) rfl rfl ?_
  refine r_iconst (v := 0) (zdk oZ_deep 1 rfl) (by decide) ?_
  refine r_aload_n (zdk oZ_deep 2 rfl) rfl rfl ?_
  refine r_iload_n (zdk oZ_deep 3 rfl) rfl rfl ?_
  refine r_iload_n (zdk oZ_deep 4 rfl) rfl rfl ?_
  refine r_catchV (M' := mL_deep) (As := [_, _]) (st := _) rfl (zdk oZ_deep 5 rfl) lM_Z_20 vL_deep rfl rfl rfl (Nat.le_of_ble_eq_true rfl) rfl (hsp) (by decide) (by decide) ?_
  intro X9 h9 q9
  obtain ⟨e1, e2⟩ := q9
  cases e1
  subst e2
  refine ⟨by decide, 17, 2, by decide, Or.inr ⟨4, (zdk oZ_deep 12 rfl), rfl, Nat.le_of_ble_eq_true rfl⟩, ?_⟩
  refine r_iconst (v := 2) (zdk oZ_deep 13 rfl) (by decide) ?_
  refine r_iret (zdk oZ_deep 14 rfl) rfl ?_
  exact zIi rfl
theorem spZ_input (d : Nat) (h : zH) (a0 a1 : Int32) (K' : zR → zH → Prop) (hsp : zSP d 0 0 mL_input [.inr (.inr 0), .inl a0, .inl a1] h K') (hK : ∀ r h', K' (.inl r) h' → ∃ a, r = some (.inl a)) : zSW (d + 1) 1 6 mZ_input [.inr (.inr 0), .inl a0, .inl a1, .inr (.inr 47)] h (fun r h' => r = .inl (some (.inl 0)) ∧ ∃ a h1, K' (.inl (some (.inl a))) h1 ∧ h' = zputL h1 47 0 a.toInt64) := by
  refine zmetW (by decide +kernel) (Nat.le_of_ble_eq_true rfl) ?_
  refine r_aload_n (zdk oZ_input 0 rfl) rfl rfl ?_
  refine r_iconst (v := 0) (zdk oZ_input 1 rfl) (by decide) ?_
  refine r_aload_n (zdk oZ_input 2 rfl) rfl rfl ?_
  refine r_iload_n (zdk oZ_input 3 rfl) rfl rfl ?_
  refine r_iload_n (zdk oZ_input 4 rfl) rfl rfl ?_
  refine r_callV2 (M' := mL_input) (zdk oZ_input 5 rfl) lM_Z_24 vL_input rfl rfl (Nat.le_of_ble_eq_true rfl) rfl (hsp) ?_
  intro r h1 q
  obtain ⟨a, e⟩ := hK r h1 q
  subst e
  refine r_i2l (zdk oZ_input 6 rfl) ?_
  refine r_last (zdk oZ_input 7 rfl) rfl (show vp_in 0 1 from fun z => z.elim (by decide) (by decide)) ?_
  refine r_goto (tgt := 21) (zdk oZ_input 8 rfl) (by decide) ?_
  refine r_iconst (v := 0) (zdk oZ_input 15 rfl) (by decide) ?_
  refine r_iret (zdk oZ_input 16 rfl) rfl ?_
  exact ⟨rfl, a, h1, q, rfl⟩
theorem spZ_input_x1 (d : Nat) (h : zH) (a0 a1 : Int32) (hsp : zTP d 1 6 mL_input [.inr (.inr 0), .inl a0, .inl a1] h (zX 1 h)) : zSW (d + 1) 1 6 mZ_input [.inr (.inr 0), .inl a0, .inl a1, .inr (.inr 47)] h (zI 1 h) := by
  refine zmetW (by decide +kernel) (Nat.le_of_ble_eq_true rfl) ?_
  refine r_aload_n (zdk oZ_input 0 rfl) rfl rfl ?_
  refine r_iconst (v := 0) (zdk oZ_input 1 rfl) (by decide) ?_
  refine r_aload_n (zdk oZ_input 2 rfl) rfl rfl ?_
  refine r_iload_n (zdk oZ_input 3 rfl) rfl rfl ?_
  refine r_iload_n (zdk oZ_input 4 rfl) rfl rfl ?_
  refine r_catchV (M' := mL_input) (As := [_, _]) (st := _) rfl (zdk oZ_input 5 rfl) lM_Z_24 vL_input rfl rfl rfl (Nat.le_of_ble_eq_true rfl) rfl (hsp) (by decide) (by decide) ?_
  intro X9 h9 q9
  obtain ⟨e1, e2⟩ := q9
  cases e1
  subst e2
  refine ⟨by decide, 13, 2, by decide, Or.inr ⟨4, (zdk oZ_input 9 rfl), rfl, Nat.le_of_ble_eq_true rfl⟩, ?_⟩
  refine r_iconst (v := 1) (zdk oZ_input 10 rfl) (by decide) ?_
  refine r_iret (zdk oZ_input 11 rfl) rfl ?_
  exact zIi rfl
theorem spZ_input_x2 (d : Nat) (h : zH) (a0 a1 : Int32) (hsp : zTP d 1 6 mL_input [.inr (.inr 0), .inl a0, .inl a1] h (zX 2 h)) : zSW (d + 1) 1 6 mZ_input [.inr (.inr 0), .inl a0, .inl a1, .inr (.inr 47)] h (zI 2 h) := by
  refine zmetW (by decide +kernel) (Nat.le_of_ble_eq_true rfl) ?_
  refine r_aload_n (zdk oZ_input 0 rfl) rfl rfl ?_
  refine r_iconst (v := 0) (zdk oZ_input 1 rfl) (by decide) ?_
  refine r_aload_n (zdk oZ_input 2 rfl) rfl rfl ?_
  refine r_iload_n (zdk oZ_input 3 rfl) rfl rfl ?_
  refine r_iload_n (zdk oZ_input 4 rfl) rfl rfl ?_
  refine r_catchV (M' := mL_input) (As := [_, _]) (st := _) rfl (zdk oZ_input 5 rfl) lM_Z_24 vL_input rfl rfl rfl (Nat.le_of_ble_eq_true rfl) rfl (hsp) (by decide) (by decide) ?_
  intro X9 h9 q9
  obtain ⟨e1, e2⟩ := q9
  cases e1
  subst e2
  refine ⟨by decide, 17, 2, by decide, Or.inr ⟨4, (zdk oZ_input 12 rfl), rfl, Nat.le_of_ble_eq_true rfl⟩, ?_⟩
  refine r_iconst (v := 2) (zdk oZ_input 13 rfl) (by decide) ?_
  refine r_iret (zdk oZ_input 14 rfl) rfl ?_
  exact zIi rfl
theorem spZ_start (d : Nat) (h : zH) (a0 : Int32) (K' : zR → zH → Prop) (hsp : zSP d 0 0 mL_start [.inr (.inr 0), .inl a0] h K') (hK : ∀ r h', K' (.inl r) h' → r = none) : zSW (d + 1) 1 6 mZ_start [.inr (.inr 0), .inl a0] h (fun r h' => r = .inl (some (.inl 0)) ∧ K' (.inl none) h') := by
  refine zmetW (by decide +kernel) (Nat.le_of_ble_eq_true rfl) ?_
  refine r_aload_n (zdk oZ_start 0 rfl) rfl rfl ?_
  refine r_iload_n (zdk oZ_start 1 rfl) rfl rfl ?_
  refine r_callV1 (M' := mL_start) (zdk oZ_start 2 rfl) lM_Z_29 vL_start rfl rfl (Nat.le_of_ble_eq_true rfl) rfl (hsp) ?_
  intro r h1 q
  have e := hK r h1 q
  subst e
  refine r_goto (tgt := 14) (zdk oZ_start 3 rfl) (by decide) ?_
  refine r_iconst (v := 0) (zdk oZ_start 10 rfl) (by decide) ?_
  refine r_iret (zdk oZ_start 11 rfl) rfl ?_
  exact ⟨rfl, q⟩
theorem spZ_start_x2 (d : Nat) (h : zH) (a0 : Int32) (hsp : zTP d 1 6 mL_start [.inr (.inr 0), .inl a0] h (zX 2 h)) : zSW (d + 1) 1 6 mZ_start [.inr (.inr 0), .inl a0] h (zI 1 h) := by
  refine zmetW (by decide +kernel) (Nat.le_of_ble_eq_true rfl) ?_
  refine r_aload_n (zdk oZ_start 0 rfl) rfl rfl ?_
  refine r_iload_n (zdk oZ_start 1 rfl) rfl rfl ?_
  refine r_catchV (M' := mL_start) (As := [_]) (st := _) rfl (zdk oZ_start 2 rfl) lM_Z_29 vL_start rfl rfl rfl (Nat.le_of_ble_eq_true rfl) rfl (hsp) (by decide) (by decide) ?_
  intro X9 h9 q9
  obtain ⟨e1, e2⟩ := q9
  cases e1
  subst e2
  refine ⟨by decide, 8, 1, by decide, Or.inl ⟨2, (zdk oZ_start 4 rfl), rfl, Nat.le_of_ble_eq_true rfl⟩, ?_⟩
  refine r_iconst (v := 1) (zdk oZ_start 5 rfl) (by decide) ?_
  refine r_iret (zdk oZ_start 6 rfl) rfl ?_
  exact zIi rfl
theorem spZ_start_x0 (d : Nat) (h : zH) (a0 : Int32) (hsp : zTP d 1 6 mL_start [.inr (.inr 0), .inl a0] h (zX 0 h)) : zSW (d + 1) 1 6 mZ_start [.inr (.inr 0), .inl a0] h (zI 2 h) := by
  refine zmetW (by decide +kernel) (Nat.le_of_ble_eq_true rfl) ?_
  refine r_aload_n (zdk oZ_start 0 rfl) rfl rfl ?_
  refine r_iload_n (zdk oZ_start 1 rfl) rfl rfl ?_
  refine r_catchV (M' := mL_start) (As := [_]) (st := _) rfl (zdk oZ_start 2 rfl) lM_Z_29 vL_start rfl rfl rfl (Nat.le_of_ble_eq_true rfl) rfl (hsp) (by decide) (by decide) ?_
  intro X9 h9 q9
  obtain ⟨e1, e2⟩ := q9
  cases e1
  subst e2
  refine ⟨by decide, 11, 1, by decide, Or.inl ⟨2, (zdk oZ_start 7 rfl), rfl, Nat.le_of_ble_eq_true rfl⟩, ?_⟩
  refine r_iconst (v := 2) (zdk oZ_start 8 rfl) (by decide) ?_
  refine r_iret (zdk oZ_start 9 rfl) rfl ?_
  exact zIi rfl
theorem spZ_hear (d : Nat) (h : zH) (a0 a1 : Int32) (K' : zR → zH → Prop) (hsp : zSP d 0 0 mL_hear [.inr (.inr 0), .inl a0, .inl a1] h K') (hK : ∀ r h', K' (.inl r) h' → ∃ a, r = some (.inl a)) : zSW (d + 1) 1 6 mZ_hear [.inr (.inr 0), .inl a0, .inl a1, .inr (.inr 47)] h (fun r h' => r = .inl (some (.inl 0)) ∧ ∃ a h1, K' (.inl (some (.inl a))) h1 ∧ h' = zputL h1 47 0 a.toInt64) := by
  refine zmetW (by decide +kernel) (Nat.le_of_ble_eq_true rfl) ?_
  refine r_aload_n (zdk oZ_hear 0 rfl) rfl rfl ?_
  refine r_iconst (v := 0) (zdk oZ_hear 1 rfl) (by decide) ?_
  refine r_aload_n (zdk oZ_hear 2 rfl) rfl rfl ?_
  refine r_iload_n (zdk oZ_hear 3 rfl) rfl rfl ?_
  refine r_iload_n (zdk oZ_hear 4 rfl) rfl rfl ?_
  refine r_callV2 (M' := mL_hear) (zdk oZ_hear 5 rfl) lM_Z_33 vL_hear rfl rfl (Nat.le_of_ble_eq_true rfl) rfl (hsp) ?_
  intro r h1 q
  obtain ⟨a, e⟩ := hK r h1 q
  subst e
  refine r_i2l (zdk oZ_hear 6 rfl) ?_
  refine r_last (zdk oZ_hear 7 rfl) rfl (show vp_in 0 1 from fun z => z.elim (by decide) (by decide)) ?_
  refine r_goto (tgt := 21) (zdk oZ_hear 8 rfl) (by decide) ?_
  refine r_iconst (v := 0) (zdk oZ_hear 15 rfl) (by decide) ?_
  refine r_iret (zdk oZ_hear 16 rfl) rfl ?_
  exact ⟨rfl, a, h1, q, rfl⟩
theorem spZ_hear_x1 (d : Nat) (h : zH) (a0 a1 : Int32) (hsp : zTP d 1 6 mL_hear [.inr (.inr 0), .inl a0, .inl a1] h (zX 1 h)) : zSW (d + 1) 1 6 mZ_hear [.inr (.inr 0), .inl a0, .inl a1, .inr (.inr 47)] h (zI 1 h) := by
  refine zmetW (by decide +kernel) (Nat.le_of_ble_eq_true rfl) ?_
  refine r_aload_n (zdk oZ_hear 0 rfl) rfl rfl ?_
  refine r_iconst (v := 0) (zdk oZ_hear 1 rfl) (by decide) ?_
  refine r_aload_n (zdk oZ_hear 2 rfl) rfl rfl ?_
  refine r_iload_n (zdk oZ_hear 3 rfl) rfl rfl ?_
  refine r_iload_n (zdk oZ_hear 4 rfl) rfl rfl ?_
  refine r_catchV (M' := mL_hear) (As := [_, _]) (st := _) rfl (zdk oZ_hear 5 rfl) lM_Z_33 vL_hear rfl rfl rfl (Nat.le_of_ble_eq_true rfl) rfl (hsp) (by decide) (by decide) ?_
  intro X9 h9 q9
  obtain ⟨e1, e2⟩ := q9
  cases e1
  subst e2
  refine ⟨by decide, 13, 2, by decide, Or.inr ⟨4, (zdk oZ_hear 9 rfl), rfl, Nat.le_of_ble_eq_true rfl⟩, ?_⟩
  refine r_iconst (v := 1) (zdk oZ_hear 10 rfl) (by decide) ?_
  refine r_iret (zdk oZ_hear 11 rfl) rfl ?_
  exact zIi rfl
theorem spZ_hear_x2 (d : Nat) (h : zH) (a0 a1 : Int32) (hsp : zTP d 1 6 mL_hear [.inr (.inr 0), .inl a0, .inl a1] h (zX 2 h)) : zSW (d + 1) 1 6 mZ_hear [.inr (.inr 0), .inl a0, .inl a1, .inr (.inr 47)] h (zI 2 h) := by
  refine zmetW (by decide +kernel) (Nat.le_of_ble_eq_true rfl) ?_
  refine r_aload_n (zdk oZ_hear 0 rfl) rfl rfl ?_
  refine r_iconst (v := 0) (zdk oZ_hear 1 rfl) (by decide) ?_
  refine r_aload_n (zdk oZ_hear 2 rfl) rfl rfl ?_
  refine r_iload_n (zdk oZ_hear 3 rfl) rfl rfl ?_
  refine r_iload_n (zdk oZ_hear 4 rfl) rfl rfl ?_
  refine r_catchV (M' := mL_hear) (As := [_, _]) (st := _) rfl (zdk oZ_hear 5 rfl) lM_Z_33 vL_hear rfl rfl rfl (Nat.le_of_ble_eq_true rfl) rfl (hsp) (by decide) (by decide) ?_
  intro X9 h9 q9
  obtain ⟨e1, e2⟩ := q9
  cases e1
  subst e2
  refine ⟨by decide, 17, 2, by decide, Or.inr ⟨4, (zdk oZ_hear 12 rfl), rfl, Nat.le_of_ble_eq_true rfl⟩, ?_⟩
  refine r_iconst (v := 2) (zdk oZ_hear 13 rfl) (by decide) ?_
  refine r_iret (zdk oZ_hear 14 rfl) rfl ?_
  exact zIi rfl
theorem spZ_round (d : Nat) (h : zH) (K' : zR → zH → Prop) (hsp : zSP d 0 0 mL_round [.inr (.inr 0)] h K') (hK : ∀ r h', K' (.inl r) h' → ∃ a, r = some (.inl a)) : zSW (d + 1) 1 6 mZ_round [.inr (.inr 0), .inr (.inr 47)] h (fun r h' => r = .inl (some (.inl 0)) ∧ ∃ a h1, K' (.inl (some (.inl a))) h1 ∧ h' = zputL h1 47 0 a.toInt64) := by
  refine zmetW (by decide +kernel) (Nat.le_of_ble_eq_true rfl) ?_
  refine r_aload_n (zdk oZ_round 0 rfl) rfl rfl ?_
  refine r_iconst (v := 0) (zdk oZ_round 1 rfl) (by decide) ?_
  refine r_aload_n (zdk oZ_round 2 rfl) rfl rfl ?_
  refine r_callV0 (M' := mL_round) (zdk oZ_round 3 rfl) lM_Z_36 vL_round rfl rfl (Nat.le_of_ble_eq_true rfl) rfl (hsp) ?_
  intro r h1 q
  obtain ⟨a, e⟩ := hK r h1 q
  subst e
  refine r_i2l (zdk oZ_round 4 rfl) ?_
  refine r_last (zdk oZ_round 5 rfl) rfl (show vp_in 0 1 from fun z => z.elim (by decide) (by decide)) ?_
  refine r_goto (tgt := 14) (zdk oZ_round 6 rfl) (by decide) ?_
  refine r_iconst (v := 0) (zdk oZ_round 10 rfl) (by decide) ?_
  refine r_iret (zdk oZ_round 11 rfl) rfl ?_
  exact ⟨rfl, a, h1, q, rfl⟩
theorem spZ_round_x0 (d : Nat) (h : zH) (hsp : zTP d 1 6 mL_round [.inr (.inr 0)] h (zX 0 h)) : zSW (d + 1) 1 6 mZ_round [.inr (.inr 0), .inr (.inr 47)] h (zI 1 h) := by
  refine zmetW (by decide +kernel) (Nat.le_of_ble_eq_true rfl) ?_
  refine r_aload_n (zdk oZ_round 0 rfl) rfl rfl ?_
  refine r_iconst (v := 0) (zdk oZ_round 1 rfl) (by decide) ?_
  refine r_aload_n (zdk oZ_round 2 rfl) rfl rfl ?_
  refine r_catchV (M' := mL_round) (As := []) (st := _) rfl (zdk oZ_round 3 rfl) lM_Z_36 vL_round rfl rfl rfl (Nat.le_of_ble_eq_true rfl) rfl (hsp) (by decide) (by decide) ?_
  intro X9 h9 q9
  obtain ⟨e1, e2⟩ := q9
  cases e1
  subst e2
  refine ⟨by decide, 11, 1, by decide, Or.inl ⟨2, (zdk oZ_round 7 rfl), rfl, Nat.le_of_ble_eq_true rfl⟩, ?_⟩
  refine r_iconst (v := 1) (zdk oZ_round 8 rfl) (by decide) ?_
  refine r_iret (zdk oZ_round 9 rfl) rfl ?_
  exact zIi rfl
theorem spZ_state (d : Nat) (h : zH) (a0 a1 : Int32) (K' : zR → zH → Prop) (hsp : zSP d 0 0 mL_state [.inr (.inr 0), .inl a0, .inl a1] h K') (hK : ∀ r h', K' (.inl r) h' → ∃ a, r = some (.inl a)) : zSW (d + 1) 1 6 mZ_state [.inr (.inr 0), .inl a0, .inl a1, .inr (.inr 47)] h (fun r h' => r = .inl (some (.inl 0)) ∧ ∃ a h1, K' (.inl (some (.inl a))) h1 ∧ h' = zputL h1 47 0 a.toInt64) := by
  refine zmetW (by decide +kernel) (Nat.le_of_ble_eq_true rfl) ?_
  refine r_aload_n (zdk oZ_state 0 rfl) rfl rfl ?_
  refine r_iconst (v := 0) (zdk oZ_state 1 rfl) (by decide) ?_
  refine r_aload_n (zdk oZ_state 2 rfl) rfl rfl ?_
  refine r_iload_n (zdk oZ_state 3 rfl) rfl rfl ?_
  refine r_iload_n (zdk oZ_state 4 rfl) rfl rfl ?_
  refine r_callV2 (M' := mL_state) (zdk oZ_state 5 rfl) lM_Z_40 vL_state rfl rfl (Nat.le_of_ble_eq_true rfl) rfl (hsp) ?_
  intro r h1 q
  obtain ⟨a, e⟩ := hK r h1 q
  subst e
  refine r_i2l (zdk oZ_state 6 rfl) ?_
  refine r_last (zdk oZ_state 7 rfl) rfl (show vp_in 0 1 from fun z => z.elim (by decide) (by decide)) ?_
  refine r_goto (tgt := 17) (zdk oZ_state 8 rfl) (by decide) ?_
  refine r_iconst (v := 0) (zdk oZ_state 12 rfl) (by decide) ?_
  refine r_iret (zdk oZ_state 13 rfl) rfl ?_
  exact ⟨rfl, a, h1, q, rfl⟩
theorem spZ_state_x1 (d : Nat) (h : zH) (a0 a1 : Int32) (hsp : zTP d 1 6 mL_state [.inr (.inr 0), .inl a0, .inl a1] h (zX 1 h)) : zSW (d + 1) 1 6 mZ_state [.inr (.inr 0), .inl a0, .inl a1, .inr (.inr 47)] h (zI 1 h) := by
  refine zmetW (by decide +kernel) (Nat.le_of_ble_eq_true rfl) ?_
  refine r_aload_n (zdk oZ_state 0 rfl) rfl rfl ?_
  refine r_iconst (v := 0) (zdk oZ_state 1 rfl) (by decide) ?_
  refine r_aload_n (zdk oZ_state 2 rfl) rfl rfl ?_
  refine r_iload_n (zdk oZ_state 3 rfl) rfl rfl ?_
  refine r_iload_n (zdk oZ_state 4 rfl) rfl rfl ?_
  refine r_catchV (M' := mL_state) (As := [_, _]) (st := _) rfl (zdk oZ_state 5 rfl) lM_Z_40 vL_state rfl rfl rfl (Nat.le_of_ble_eq_true rfl) rfl (hsp) (by decide) (by decide) ?_
  intro X9 h9 q9
  obtain ⟨e1, e2⟩ := q9
  cases e1
  subst e2
  refine ⟨by decide, 13, 2, by decide, Or.inr ⟨4, (zdk oZ_state 9 rfl), rfl, Nat.le_of_ble_eq_true rfl⟩, ?_⟩
  refine r_iconst (v := 1) (zdk oZ_state 10 rfl) (by decide) ?_
  refine r_iret (zdk oZ_state 11 rfl) rfl ?_
  exact zIi rfl
theorem spZ_decided (d : Nat) (h : zH) (a0 : Int32) (K' : zR → zH → Prop) (hsp : zSP d 0 0 mL_decided [.inr (.inr 0), .inl a0] h K') (hK : ∀ r h', K' (.inl r) h' → ∃ a, r = some (.inl a)) : zSW (d + 1) 1 6 mZ_decided [.inr (.inr 0), .inl a0, .inr (.inr 47)] h (fun r h' => r = .inl (some (.inl 0)) ∧ ∃ a h1, K' (.inl (some (.inl a))) h1 ∧ h' = zputL h1 47 0 a.toInt64) := by
  refine zmetW (by decide +kernel) (Nat.le_of_ble_eq_true rfl) ?_
  refine r_aload_n (zdk oZ_decided 0 rfl) rfl rfl ?_
  refine r_iconst (v := 0) (zdk oZ_decided 1 rfl) (by decide) ?_
  refine r_aload_n (zdk oZ_decided 2 rfl) rfl rfl ?_
  refine r_iload_n (zdk oZ_decided 3 rfl) rfl rfl ?_
  refine r_callV1 (M' := mL_decided) (zdk oZ_decided 4 rfl) lM_Z_43 vL_decided rfl rfl (Nat.le_of_ble_eq_true rfl) rfl (hsp) ?_
  intro r h1 q
  obtain ⟨a, e⟩ := hK r h1 q
  subst e
  refine r_i2l (zdk oZ_decided 5 rfl) ?_
  refine r_last (zdk oZ_decided 6 rfl) rfl (show vp_in 0 1 from fun z => z.elim (by decide) (by decide)) ?_
  refine r_goto (tgt := 15) (zdk oZ_decided 7 rfl) (by decide) ?_
  refine r_iconst (v := 0) (zdk oZ_decided 11 rfl) (by decide) ?_
  refine r_iret (zdk oZ_decided 12 rfl) rfl ?_
  exact ⟨rfl, a, h1, q, rfl⟩
theorem spZ_decided_x1 (d : Nat) (h : zH) (a0 : Int32) (hsp : zTP d 1 6 mL_decided [.inr (.inr 0), .inl a0] h (zX 1 h)) : zSW (d + 1) 1 6 mZ_decided [.inr (.inr 0), .inl a0, .inr (.inr 47)] h (zI 1 h) := by
  refine zmetW (by decide +kernel) (Nat.le_of_ble_eq_true rfl) ?_
  refine r_aload_n (zdk oZ_decided 0 rfl) rfl rfl ?_
  refine r_iconst (v := 0) (zdk oZ_decided 1 rfl) (by decide) ?_
  refine r_aload_n (zdk oZ_decided 2 rfl) rfl rfl ?_
  refine r_iload_n (zdk oZ_decided 3 rfl) rfl rfl ?_
  refine r_catchV (M' := mL_decided) (As := [_]) (st := _) rfl (zdk oZ_decided 4 rfl) lM_Z_43 vL_decided rfl rfl rfl (Nat.le_of_ble_eq_true rfl) rfl (hsp) (by decide) (by decide) ?_
  intro X9 h9 q9
  obtain ⟨e1, e2⟩ := q9
  cases e1
  subst e2
  refine ⟨by decide, 12, 1, by decide, Or.inl ⟨3, (zdk oZ_decided 8 rfl), rfl, Nat.le_of_ble_eq_true rfl⟩, ?_⟩
  refine r_iconst (v := 1) (zdk oZ_decided 9 rfl) (by decide) ?_
  refine r_iret (zdk oZ_decided 10 rfl) rfl ?_
  exact zIi rfl
theorem spZ_message (d : Nat) (h : zH) (a0 : Int32) (K' : zR → zH → Prop) (hsp : zSP d 0 0 mL_message [.inr (.inr 0), .inl a0] h K') (hK : ∀ r h', K' (.inl r) h' → ∃ a, r = some (.inl a)) : zSW (d + 1) 1 6 mZ_message [.inr (.inr 0), .inl a0, .inr (.inr 47)] h (fun r h' => r = .inl (some (.inl 0)) ∧ ∃ a h1, K' (.inl (some (.inl a))) h1 ∧ h' = zputL h1 47 0 a.toInt64) := by
  refine zmetW (by decide +kernel) (Nat.le_of_ble_eq_true rfl) ?_
  refine r_aload_n (zdk oZ_message 0 rfl) rfl rfl ?_
  refine r_iconst (v := 0) (zdk oZ_message 1 rfl) (by decide) ?_
  refine r_aload_n (zdk oZ_message 2 rfl) rfl rfl ?_
  refine r_iload_n (zdk oZ_message 3 rfl) rfl rfl ?_
  refine r_callV1 (M' := mL_message) (zdk oZ_message 4 rfl) lM_Z_46 vL_message rfl rfl (Nat.le_of_ble_eq_true rfl) rfl (hsp) ?_
  intro r h1 q
  obtain ⟨a, e⟩ := hK r h1 q
  subst e
  refine r_i2l (zdk oZ_message 5 rfl) ?_
  refine r_last (zdk oZ_message 6 rfl) rfl (show vp_in 0 1 from fun z => z.elim (by decide) (by decide)) ?_
  refine r_goto (tgt := 15) (zdk oZ_message 7 rfl) (by decide) ?_
  refine r_iconst (v := 0) (zdk oZ_message 11 rfl) (by decide) ?_
  refine r_iret (zdk oZ_message 12 rfl) rfl ?_
  exact ⟨rfl, a, h1, q, rfl⟩
theorem spZ_message_x1 (d : Nat) (h : zH) (a0 : Int32) (hsp : zTP d 1 6 mL_message [.inr (.inr 0), .inl a0] h (zX 1 h)) : zSW (d + 1) 1 6 mZ_message [.inr (.inr 0), .inl a0, .inr (.inr 47)] h (zI 1 h) := by
  refine zmetW (by decide +kernel) (Nat.le_of_ble_eq_true rfl) ?_
  refine r_aload_n (zdk oZ_message 0 rfl) rfl rfl ?_
  refine r_iconst (v := 0) (zdk oZ_message 1 rfl) (by decide) ?_
  refine r_aload_n (zdk oZ_message 2 rfl) rfl rfl ?_
  refine r_iload_n (zdk oZ_message 3 rfl) rfl rfl ?_
  refine r_catchV (M' := mL_message) (As := [_]) (st := _) rfl (zdk oZ_message 4 rfl) lM_Z_46 vL_message rfl rfl rfl (Nat.le_of_ble_eq_true rfl) rfl (hsp) (by decide) (by decide) ?_
  intro X9 h9 q9
  obtain ⟨e1, e2⟩ := q9
  cases e1
  subst e2
  refine ⟨by decide, 12, 1, by decide, Or.inl ⟨3, (zdk oZ_message 8 rfl), rfl, Nat.le_of_ble_eq_true rfl⟩, ?_⟩
  refine r_iconst (v := 1) (zdk oZ_message 9 rfl) (by decide) ?_
  refine r_iret (zdk oZ_message 10 rfl) rfl ?_
  exact zIi rfl
theorem spZ_explore (d : Nat) (h : zH) (a0 a1 a2 a3 : Int32) (K' : zR → zH → Prop) (hsp : zSP d 0 0 mL_explore [.inr (.inr 0), .inl a0, .inl a1, .inl a2, .inl a3] h K') (hK : ∀ r h', K' (.inl r) h' → ∃ a, r = some (.inl a)) : zSW (d + 1) 1 6 mZ_explore [.inr (.inr 0), .inl a0, .inl a1, .inl a2, .inl a3, .inr (.inr 47)] h (fun r h' => r = .inl (some (.inl 0)) ∧ ∃ a h1, K' (.inl (some (.inl a))) h1 ∧ h' = zputL h1 47 0 a.toInt64) := by
  refine zmetW (by decide +kernel) (Nat.le_of_ble_eq_true rfl) ?_
  refine r_aload (zdk oZ_explore 0 rfl) rfl ?_
  refine r_iconst (v := 0) (zdk oZ_explore 1 rfl) (by decide) ?_
  refine r_aload_n (zdk oZ_explore 2 rfl) rfl rfl ?_
  refine r_iload_n (zdk oZ_explore 3 rfl) rfl rfl ?_
  refine r_iload_n (zdk oZ_explore 4 rfl) rfl rfl ?_
  refine r_iload_n (zdk oZ_explore 5 rfl) rfl rfl ?_
  refine r_iload (zdk oZ_explore 6 rfl) rfl ?_
  refine r_callV4 (M' := mL_explore) (zdk oZ_explore 7 rfl) lM_Z_49 vL_explore rfl rfl (Nat.le_of_ble_eq_true rfl) rfl (hsp) ?_
  intro r h1 q
  obtain ⟨a, e⟩ := hK r h1 q
  subst e
  refine r_i2l (zdk oZ_explore 8 rfl) ?_
  refine r_last (zdk oZ_explore 9 rfl) rfl (show vp_in 0 1 from fun z => z.elim (by decide) (by decide)) ?_
  refine r_goto (tgt := 25) (zdk oZ_explore 10 rfl) (by decide) ?_
  refine r_iconst (v := 0) (zdk oZ_explore 17 rfl) (by decide) ?_
  refine r_iret (zdk oZ_explore 18 rfl) rfl ?_
  exact ⟨rfl, a, h1, q, rfl⟩
theorem spZ_explore_x2 (d : Nat) (h : zH) (a0 a1 a2 a3 : Int32) (hsp : zTP d 1 6 mL_explore [.inr (.inr 0), .inl a0, .inl a1, .inl a2, .inl a3] h (zX 2 h)) : zSW (d + 1) 1 6 mZ_explore [.inr (.inr 0), .inl a0, .inl a1, .inl a2, .inl a3, .inr (.inr 47)] h (zI 1 h) := by
  refine zmetW (by decide +kernel) (Nat.le_of_ble_eq_true rfl) ?_
  refine r_aload (zdk oZ_explore 0 rfl) rfl ?_
  refine r_iconst (v := 0) (zdk oZ_explore 1 rfl) (by decide) ?_
  refine r_aload_n (zdk oZ_explore 2 rfl) rfl rfl ?_
  refine r_iload_n (zdk oZ_explore 3 rfl) rfl rfl ?_
  refine r_iload_n (zdk oZ_explore 4 rfl) rfl rfl ?_
  refine r_iload_n (zdk oZ_explore 5 rfl) rfl rfl ?_
  refine r_iload (zdk oZ_explore 6 rfl) rfl ?_
  refine r_catchV (M' := mL_explore) (As := [_, _, _, _]) (st := _) rfl (zdk oZ_explore 7 rfl) lM_Z_49 vL_explore rfl rfl rfl (Nat.le_of_ble_eq_true rfl) rfl (hsp) (by decide) (by decide) ?_
  intro X9 h9 q9
  obtain ⟨e1, e2⟩ := q9
  cases e1
  subst e2
  refine ⟨by decide, 17, 2, by decide, Or.inr ⟨6, (zdk oZ_explore 11 rfl), rfl, Nat.le_of_ble_eq_true rfl⟩, ?_⟩
  refine r_iconst (v := 1) (zdk oZ_explore 12 rfl) (by decide) ?_
  refine r_iret (zdk oZ_explore 13 rfl) rfl ?_
  exact zIi rfl
theorem spZ_explore_x0 (d : Nat) (h : zH) (a0 a1 a2 a3 : Int32) (hsp : zTP d 1 6 mL_explore [.inr (.inr 0), .inl a0, .inl a1, .inl a2, .inl a3] h (zX 0 h)) : zSW (d + 1) 1 6 mZ_explore [.inr (.inr 0), .inl a0, .inl a1, .inl a2, .inl a3, .inr (.inr 47)] h (zI 2 h) := by
  refine zmetW (by decide +kernel) (Nat.le_of_ble_eq_true rfl) ?_
  refine r_aload (zdk oZ_explore 0 rfl) rfl ?_
  refine r_iconst (v := 0) (zdk oZ_explore 1 rfl) (by decide) ?_
  refine r_aload_n (zdk oZ_explore 2 rfl) rfl rfl ?_
  refine r_iload_n (zdk oZ_explore 3 rfl) rfl rfl ?_
  refine r_iload_n (zdk oZ_explore 4 rfl) rfl rfl ?_
  refine r_iload_n (zdk oZ_explore 5 rfl) rfl rfl ?_
  refine r_iload (zdk oZ_explore 6 rfl) rfl ?_
  refine r_catchV (M' := mL_explore) (As := [_, _, _, _]) (st := _) rfl (zdk oZ_explore 7 rfl) lM_Z_49 vL_explore rfl rfl rfl (Nat.le_of_ble_eq_true rfl) rfl (hsp) (by decide) (by decide) ?_
  intro X9 h9 q9
  obtain ⟨e1, e2⟩ := q9
  cases e1
  subst e2
  refine ⟨by decide, 21, 2, by decide, Or.inr ⟨6, (zdk oZ_explore 14 rfl), rfl, Nat.le_of_ble_eq_true rfl⟩, ?_⟩
  refine r_iconst (v := 2) (zdk oZ_explore 15 rfl) (by decide) ?_
  refine r_iret (zdk oZ_explore 16 rfl) rfl ?_
  exact zIi rfl
theorem spZ_trace (d : Nat) (h : zH) (a0 : Int32) (K' : zR → zH → Prop) (hsp : zSP d 0 0 mL_trace [.inr (.inr 0), .inl a0] h K') (hK : ∀ r h', K' (.inl r) h' → ∃ a, r = some (.inl a)) : zSW (d + 1) 1 6 mZ_trace [.inr (.inr 0), .inl a0, .inr (.inr 47)] h (fun r h' => r = .inl (some (.inl 0)) ∧ ∃ a h1, K' (.inl (some (.inl a))) h1 ∧ h' = zputL h1 47 0 a.toInt64) := by
  refine zmetW (by decide +kernel) (Nat.le_of_ble_eq_true rfl) ?_
  refine r_aload_n (zdk oZ_trace 0 rfl) rfl rfl ?_
  refine r_iconst (v := 0) (zdk oZ_trace 1 rfl) (by decide) ?_
  refine r_aload_n (zdk oZ_trace 2 rfl) rfl rfl ?_
  refine r_iload_n (zdk oZ_trace 3 rfl) rfl rfl ?_
  refine r_callV1 (M' := mL_trace) (zdk oZ_trace 4 rfl) lM_Z_53 vL_trace rfl rfl (Nat.le_of_ble_eq_true rfl) rfl (hsp) ?_
  intro r h1 q
  obtain ⟨a, e⟩ := hK r h1 q
  subst e
  refine r_i2l (zdk oZ_trace 5 rfl) ?_
  refine r_last (zdk oZ_trace 6 rfl) rfl (show vp_in 0 1 from fun z => z.elim (by decide) (by decide)) ?_
  refine r_goto (tgt := 15) (zdk oZ_trace 7 rfl) (by decide) ?_
  refine r_iconst (v := 0) (zdk oZ_trace 11 rfl) (by decide) ?_
  refine r_iret (zdk oZ_trace 12 rfl) rfl ?_
  exact ⟨rfl, a, h1, q, rfl⟩
theorem spZ_trace_x1 (d : Nat) (h : zH) (a0 : Int32) (hsp : zTP d 1 6 mL_trace [.inr (.inr 0), .inl a0] h (zX 1 h)) : zSW (d + 1) 1 6 mZ_trace [.inr (.inr 0), .inl a0, .inr (.inr 47)] h (zI 1 h) := by
  refine zmetW (by decide +kernel) (Nat.le_of_ble_eq_true rfl) ?_
  refine r_aload_n (zdk oZ_trace 0 rfl) rfl rfl ?_
  refine r_iconst (v := 0) (zdk oZ_trace 1 rfl) (by decide) ?_
  refine r_aload_n (zdk oZ_trace 2 rfl) rfl rfl ?_
  refine r_iload_n (zdk oZ_trace 3 rfl) rfl rfl ?_
  refine r_catchV (M' := mL_trace) (As := [_]) (st := _) rfl (zdk oZ_trace 4 rfl) lM_Z_53 vL_trace rfl rfl rfl (Nat.le_of_ble_eq_true rfl) rfl (hsp) (by decide) (by decide) ?_
  intro X9 h9 q9
  obtain ⟨e1, e2⟩ := q9
  cases e1
  subst e2
  refine ⟨by decide, 12, 1, by decide, Or.inl ⟨3, (zdk oZ_trace 8 rfl), rfl, Nat.le_of_ble_eq_true rfl⟩, ?_⟩
  refine r_iconst (v := 1) (zdk oZ_trace 9 rfl) (by decide) ?_
  refine r_iret (zdk oZ_trace 10 rfl) rfl ?_
  exact zIi rfl
theorem spZ_at (d : Nat) (h : zH) (a0 : Int32) (K' : zR → zH → Prop) (hsp : zSP d 0 0 mL_at [.inr (.inr 0), .inl a0] h K') (hK : ∀ r h', K' (.inl r) h' → ∃ a, r = some (.inl a)) : zSW (d + 1) 1 6 mZ_at [.inr (.inr 0), .inl a0, .inr (.inr 47)] h (fun r h' => r = .inl (some (.inl 0)) ∧ ∃ a h1, K' (.inl (some (.inl a))) h1 ∧ h' = zputL h1 47 0 a.toInt64) := by
  refine zmetW (by decide +kernel) (Nat.le_of_ble_eq_true rfl) ?_
  refine r_aload_n (zdk oZ_at 0 rfl) rfl rfl ?_
  refine r_iconst (v := 0) (zdk oZ_at 1 rfl) (by decide) ?_
  refine r_aload_n (zdk oZ_at 2 rfl) rfl rfl ?_
  refine r_iload_n (zdk oZ_at 3 rfl) rfl rfl ?_
  refine r_callV1 (M' := mL_at) (zdk oZ_at 4 rfl) lM_Z_56 vL_at rfl rfl (Nat.le_of_ble_eq_true rfl) rfl (hsp) ?_
  intro r h1 q
  obtain ⟨a, e⟩ := hK r h1 q
  subst e
  refine r_i2l (zdk oZ_at 5 rfl) ?_
  refine r_last (zdk oZ_at 6 rfl) rfl (show vp_in 0 1 from fun z => z.elim (by decide) (by decide)) ?_
  refine r_goto (tgt := 15) (zdk oZ_at 7 rfl) (by decide) ?_
  refine r_iconst (v := 0) (zdk oZ_at 11 rfl) (by decide) ?_
  refine r_iret (zdk oZ_at 12 rfl) rfl ?_
  exact ⟨rfl, a, h1, q, rfl⟩
theorem spZ_at_x1 (d : Nat) (h : zH) (a0 : Int32) (hsp : zTP d 1 6 mL_at [.inr (.inr 0), .inl a0] h (zX 1 h)) : zSW (d + 1) 1 6 mZ_at [.inr (.inr 0), .inl a0, .inr (.inr 47)] h (zI 1 h) := by
  refine zmetW (by decide +kernel) (Nat.le_of_ble_eq_true rfl) ?_
  refine r_aload_n (zdk oZ_at 0 rfl) rfl rfl ?_
  refine r_iconst (v := 0) (zdk oZ_at 1 rfl) (by decide) ?_
  refine r_aload_n (zdk oZ_at 2 rfl) rfl rfl ?_
  refine r_iload_n (zdk oZ_at 3 rfl) rfl rfl ?_
  refine r_catchV (M' := mL_at) (As := [_]) (st := _) rfl (zdk oZ_at 4 rfl) lM_Z_56 vL_at rfl rfl rfl (Nat.le_of_ble_eq_true rfl) rfl (hsp) (by decide) (by decide) ?_
  intro X9 h9 q9
  obtain ⟨e1, e2⟩ := q9
  cases e1
  subst e2
  refine ⟨by decide, 12, 1, by decide, Or.inl ⟨3, (zdk oZ_at 8 rfl), rfl, Nat.le_of_ble_eq_true rfl⟩, ?_⟩
  refine r_iconst (v := 1) (zdk oZ_at 9 rfl) (by decide) ?_
  refine r_iret (zdk oZ_at 10 rfl) rfl ?_
  exact zIi rfl
theorem spZ_count (d : Nat) (h : zH) (a0 : Int32) (K' : zR → zH → Prop) (hsp : zSP d 0 0 mL_count [.inr (.inr 0), .inl a0] h K') (hK : ∀ r h', K' (.inl r) h' → ∃ a, r = some (.inl a)) : zSW (d + 1) 1 6 mZ_count [.inr (.inr 0), .inl a0, .inr (.inr 47)] h (fun r h' => r = .inl (some (.inl 0)) ∧ ∃ a h1, K' (.inl (some (.inl a))) h1 ∧ h' = zputL h1 47 0 a.toInt64) := by
  refine zmetW (by decide +kernel) (Nat.le_of_ble_eq_true rfl) ?_
  refine r_aload_n (zdk oZ_count 0 rfl) rfl rfl ?_
  refine r_iconst (v := 0) (zdk oZ_count 1 rfl) (by decide) ?_
  refine r_aload_n (zdk oZ_count 2 rfl) rfl rfl ?_
  refine r_iload_n (zdk oZ_count 3 rfl) rfl rfl ?_
  refine r_callV1 (M' := mL_count) (zdk oZ_count 4 rfl) lM_Z_59 vL_count rfl rfl (Nat.le_of_ble_eq_true rfl) rfl (hsp) ?_
  intro r h1 q
  obtain ⟨a, e⟩ := hK r h1 q
  subst e
  refine r_i2l (zdk oZ_count 5 rfl) ?_
  refine r_last (zdk oZ_count 6 rfl) rfl (show vp_in 0 1 from fun z => z.elim (by decide) (by decide)) ?_
  refine r_goto (tgt := 15) (zdk oZ_count 7 rfl) (by decide) ?_
  refine r_iconst (v := 0) (zdk oZ_count 11 rfl) (by decide) ?_
  refine r_iret (zdk oZ_count 12 rfl) rfl ?_
  exact ⟨rfl, a, h1, q, rfl⟩
theorem spZ_count_x2 (d : Nat) (h : zH) (a0 : Int32) (hsp : zTP d 1 6 mL_count [.inr (.inr 0), .inl a0] h (zX 2 h)) : zSW (d + 1) 1 6 mZ_count [.inr (.inr 0), .inl a0, .inr (.inr 47)] h (zI 1 h) := by
  refine zmetW (by decide +kernel) (Nat.le_of_ble_eq_true rfl) ?_
  refine r_aload_n (zdk oZ_count 0 rfl) rfl rfl ?_
  refine r_iconst (v := 0) (zdk oZ_count 1 rfl) (by decide) ?_
  refine r_aload_n (zdk oZ_count 2 rfl) rfl rfl ?_
  refine r_iload_n (zdk oZ_count 3 rfl) rfl rfl ?_
  refine r_catchV (M' := mL_count) (As := [_]) (st := _) rfl (zdk oZ_count 4 rfl) lM_Z_59 vL_count rfl rfl rfl (Nat.le_of_ble_eq_true rfl) rfl (hsp) (by decide) (by decide) ?_
  intro X9 h9 q9
  obtain ⟨e1, e2⟩ := q9
  cases e1
  subst e2
  refine ⟨by decide, 12, 1, by decide, Or.inl ⟨3, (zdk oZ_count 8 rfl), rfl, Nat.le_of_ble_eq_true rfl⟩, ?_⟩
  refine r_iconst (v := 1) (zdk oZ_count 9 rfl) (by decide) ?_
  refine r_iret (zdk oZ_count 10 rfl) rfl ?_
  exact zIi rfl
