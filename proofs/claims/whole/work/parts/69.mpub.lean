/-! the reference's public methods -/
theorem zNat {i : Int32} {n : Nat} (h0 : ¬ i < 0) (h1 : ¬ nI n ≤ i) (hn : n < 2 ^ 31) : ∃ k, k < n ∧ i = nI k := by
  have hn' : (nI n).toInt = n := nI_toInt hn
  rw [Int32.lt_iff_toInt_lt, show (0 : Int32).toInt = 0 from rfl] at h0
  rw [Int32.le_iff_toInt_le, hn'] at h1
  refine ⟨i.toInt.toNat, by omega, ?_⟩
  rw [← Int32.toInt_inj, nI_toInt (by omega)]
  omega
theorem spM_thrown (d : Nat) (h : zH) : zSP d 0 0 mM_thrown [.inr (.inr 27)] h (zI (h.1 27 0) h) := by
  refine zmet (by decide +kernel) (Nat.le_of_ble_eq_true rfl) ?_
  refine r_aload_n (zdk oM_thrown 0 rfl) rfl rfl ?_
  refine r_geti (kf := 0) (zdk oM_thrown 1 rfl) rfl rfl (by decide) lF_M_72 rfl ?_
  refine r_iret (zdk oM_thrown 2 rfl) rfl ?_
  exact zIi rfl
/-- a call that is refused -/
def zRef (h : zH) (t : Int32) : zR → zH → Prop := zI 0 (zput h 27 0 t)
theorem spM_at (d : Nat) (h : zH) (i : Int32) (n : Nat) (hm : h.1 27 1 = nI n) (hn : n ≤ 400) : zSP (d + 1) 0 0 mM_at [.inr (.inr 27), .inl i] h (fun r h' => ((i < 0 ∨ nI n ≤ i) → zRef h 1 r h') ∧ (∀ k, k < n → i = nI k → zI (h.1 28 k) (zput h 27 0 0) r h')) := by
  have bad : (i < 0 ∨ nI n ≤ i) → zMC false (d + 1) 0 0 0 0 mM_at (fun r h' => ((i < 0 ∨ nI n ≤ i) → zRef h 1 r h') ∧ (∀ k, k < n → i = nI k → zI (h.1 28 k) (zput h 27 0 0) r h')) 17 [some (.inr (.inr 27)), some (.inl i)] [.inr (.inr 27)] h := by
    intro q
    refine r_iconst (v := 0) (zdk oM_at 9 rfl) (by decide) ?_
    refine r_iconst (v := 1) (zdk oM_at 10 rfl) (by decide) ?_
    refine r_callV2i (M' := mM_goes) (zdk oM_at 11 rfl) lM_M_85 vM_goes rfl rfl (Nat.le_of_ble_eq_true rfl) rfl (spM_goes d h false true) ?_
    refine r_if_eq (tgt := 34) (zdk oM_at 12 rfl) (by decide) (fun _ => ?_) (fun q9 => absurd ((rfl)) q9)
    refine r_iconst (v := 0) (zdk oM_at 18 rfl) (by decide) ?_
    refine r_iret (zdk oM_at 19 rfl) rfl ?_
    refine ⟨fun _ => zIi rfl, fun k hk e => ?_⟩
    subst e
    rcases q with q | q
    · exact absurd q (zm1p (by omega))
    · exact absurd q (nI_ge hk (by omega))
  refine zmet (by decide +kernel) (Nat.le_of_ble_eq_true rfl) ?_
  refine r_aload_n (zdk oM_at 0 rfl) rfl rfl ?_
  refine r_iload_n (zdk oM_at 1 rfl) rfl rfl ?_
  refine r_if_lt (tgt := 17) (zdk oM_at 2 rfl) (by decide) (fun h1 => ?_) (fun h1 => ?_)
  · exact bad (Or.inl h1)
  · refine r_iload_n (zdk oM_at 3 rfl) rfl rfl ?_
    refine r_aload_n (zdk oM_at 4 rfl) rfl rfl ?_
    refine r_geti (kf := 1) (zdk oM_at 5 rfl) rfl rfl (by decide) lF_M_82 rfl ?_
    rw [hm]
    refine r_icmp_ge (tgt := 17) (zdk oM_at 6 rfl) (by decide) (fun h2 => ?_) (fun h2 => ?_)
    · exact bad (Or.inr h2)
    · obtain ⟨k, hk, rfl⟩ := zNat h1 h2 (by omega)
      refine r_iconst (v := 1) (zdk oM_at 7 rfl) (by decide) ?_
      refine r_goto (tgt := 18) (zdk oM_at 8 rfl) (by decide) ?_
      refine r_iconst (v := 1) (zdk oM_at 10 rfl) (by decide) ?_
      refine r_callV2i (M' := mM_goes) (zdk oM_at 11 rfl) lM_M_85 vM_goes rfl rfl (Nat.le_of_ble_eq_true rfl) rfl (spM_goes d h true true) ?_
      refine r_if_eq (tgt := 34) (zdk oM_at 12 rfl) (by decide) (fun q9 => absurd q9 ((fBo_t))) (fun _ => ?_)
      refine r_aload_n (zdk oM_at 13 rfl) rfl rfl ?_
      refine r_getr (kf := 2) (zdk oM_at 14 rfl) rfl rfl (by decide) lF_M_7 rfl ?_
      refine r_iload_n (zdk oM_at 15 rfl) rfl rfl ?_
      refine r_iald (zdk oM_at 16 rfl) rfl (vp_in_nI (n := k) (by omega) (by decide)) ?_
      refine r_goto (tgt := 35) (zdk oM_at 17 rfl) (by decide) ?_
      refine r_iret (zdk oM_at 19 rfl) rfl ?_
      refine ⟨fun q => ?_, fun k' hk' e => zIh (by rw [nI_clamp (n := k) (by omega), nI_inj (by omega) (by omega) e]; rfl) rfl⟩
      rcases q with q | q
      · exact absurd q h1
      · exact absurd q h2
theorem spM_trace (d : Nat) (h : zH) (i : Int32) (n : Nat) (hm : h.1 27 27 = nI n) (hn : n ≤ 18) : zSP (d + 1) 0 0 mM_trace [.inr (.inr 27), .inl i] h (fun r h' => ((i < 0 ∨ nI n ≤ i) → zRef h 1 r h') ∧ (∀ k, k < n → i = nI k → zI (h.1 43 k) (zput h 27 0 0) r h')) := by
  have bad : (i < 0 ∨ nI n ≤ i) → zMC false (d + 1) 0 0 0 0 mM_trace (fun r h' => ((i < 0 ∨ nI n ≤ i) → zRef h 1 r h') ∧ (∀ k, k < n → i = nI k → zI (h.1 43 k) (zput h 27 0 0) r h')) 17 [some (.inr (.inr 27)), some (.inl i)] [.inr (.inr 27)] h := by
    intro q
    refine r_iconst (v := 0) (zdk oM_trace 9 rfl) (by decide) ?_
    refine r_iconst (v := 1) (zdk oM_trace 10 rfl) (by decide) ?_
    refine r_callV2i (M' := mM_goes) (zdk oM_trace 11 rfl) lM_M_85 vM_goes rfl rfl (Nat.le_of_ble_eq_true rfl) rfl (spM_goes d h false true) ?_
    refine r_if_eq (tgt := 34) (zdk oM_trace 12 rfl) (by decide) (fun _ => ?_) (fun q9 => absurd ((rfl)) q9)
    refine r_iconst (v := 0) (zdk oM_trace 18 rfl) (by decide) ?_
    refine r_iret (zdk oM_trace 19 rfl) rfl ?_
    refine ⟨fun _ => zIi rfl, fun k hk e => ?_⟩
    subst e
    rcases q with q | q
    · exact absurd q (zm1p (by omega))
    · exact absurd q (nI_ge hk (by omega))
  refine zmet (by decide +kernel) (Nat.le_of_ble_eq_true rfl) ?_
  refine r_aload_n (zdk oM_trace 0 rfl) rfl rfl ?_
  refine r_iload_n (zdk oM_trace 1 rfl) rfl rfl ?_
  refine r_if_lt (tgt := 17) (zdk oM_trace 2 rfl) (by decide) (fun h1 => ?_) (fun h1 => ?_)
  · exact bad (Or.inl h1)
  · refine r_iload_n (zdk oM_trace 3 rfl) rfl rfl ?_
    refine r_aload_n (zdk oM_trace 4 rfl) rfl rfl ?_
    refine r_geti (kf := 27) (zdk oM_trace 5 rfl) rfl rfl (by decide) lF_M_188 rfl ?_
    rw [hm]
    refine r_icmp_ge (tgt := 17) (zdk oM_trace 6 rfl) (by decide) (fun h2 => ?_) (fun h2 => ?_)
    · exact bad (Or.inr h2)
    · obtain ⟨k, hk, rfl⟩ := zNat h1 h2 (by omega)
      refine r_iconst (v := 1) (zdk oM_trace 7 rfl) (by decide) ?_
      refine r_goto (tgt := 18) (zdk oM_trace 8 rfl) (by decide) ?_
      refine r_iconst (v := 1) (zdk oM_trace 10 rfl) (by decide) ?_
      refine r_callV2i (M' := mM_goes) (zdk oM_trace 11 rfl) lM_M_85 vM_goes rfl rfl (Nat.le_of_ble_eq_true rfl) rfl (spM_goes d h true true) ?_
      refine r_if_eq (tgt := 34) (zdk oM_trace 12 rfl) (by decide) (fun q9 => absurd q9 ((fBo_t))) (fun _ => ?_)
      refine r_aload_n (zdk oM_trace 13 rfl) rfl rfl ?_
      refine r_getr (kf := 28) (zdk oM_trace 14 rfl) rfl rfl (by decide) lF_M_60 rfl ?_
      refine r_iload_n (zdk oM_trace 15 rfl) rfl rfl ?_
      refine r_iald (zdk oM_trace 16 rfl) rfl (vp_in_nI (n := k) (by omega) (by decide)) ?_
      refine r_goto (tgt := 35) (zdk oM_trace 17 rfl) (by decide) ?_
      refine r_iret (zdk oM_trace 19 rfl) rfl ?_
      refine ⟨fun q => ?_, fun k' hk' e => zIh (by rw [nI_clamp (n := k) (by omega), nI_inj (by omega) (by omega) e]; rfl) rfl⟩
      rcases q with q | q
      · exact absurd q h1
      · exact absurd q h2
theorem zIsP {p : Int32} {n : Nat} (hn : n < 2 ^ 31) : decide (¬ p < 0 ∧ ¬ nI n ≤ p) = true ↔ ∃ k, k < n ∧ p = nI k := by
  rw [decide_eq_true_eq]
  constructor
  · rintro ⟨a, b⟩
    exact zNat a b hn
  · rintro ⟨k, hk, rfl⟩
    exact ⟨zm1p (by omega), nI_ge hk hn⟩
theorem spM_decided_t (d : Nat) (h : zH) (p : Int32) (hp : decide (¬ p < 0 ∧ ¬ h.1 27 10 ≤ p) = false) : zSP (d + 1) 0 0 mM_decided [.inr (.inr 27), .inl p] h (zRef h 1) := by
  refine zmet (by decide +kernel) (Nat.le_of_ble_eq_true rfl) ?_
  refine r_aload_n (zdk oM_decided 0 rfl) rfl rfl ?_
  refine r_aload_n (zdk oM_decided 1 rfl) rfl rfl ?_
  refine r_iload_n (zdk oM_decided 2 rfl) rfl rfl ?_
  refine r_callV1i (M' := mM_isProcess) (zdk oM_decided 3 rfl) lM_M_176 vM_isProcess rfl rfl (Nat.le_of_ble_eq_true rfl) rfl (spM_isProcess d h p) ?_
  rw [hp]
  refine r_iconst (v := 1) (zdk oM_decided 4 rfl) (by decide) ?_
  refine r_callV2i (M' := mM_goes) (zdk oM_decided 5 rfl) lM_M_85 vM_goes rfl rfl (Nat.le_of_ble_eq_true rfl) rfl (spM_goes d h false true) ?_
  refine r_if_eq (tgt := 26) (zdk oM_decided 6 rfl) (by decide) (fun _ => ?_) (fun q9 => absurd ((rfl)) q9)
  refine r_iconst (v := 0) (zdk oM_decided 16 rfl) (by decide) ?_
  refine r_iret (zdk oM_decided 17 rfl) rfl ?_
  exact zIi rfl
theorem spM_decided (d : Nat) (h : zH) (k : Nat) (hk : k < 7) (hp : decide (¬ nI k < 0 ∧ ¬ h.1 27 10 ≤ nI k) = true) : zSP (d + 1) 0 0 mM_decided [.inr (.inr 27), .inl (nI k)] h (zI (h.1 34 (5 * k) - 1) (zput h 27 0 0)) := by
  refine zmet (by decide +kernel) (Nat.le_of_ble_eq_true rfl) ?_
  refine r_aload_n (zdk oM_decided 0 rfl) rfl rfl ?_
  refine r_aload_n (zdk oM_decided 1 rfl) rfl rfl ?_
  refine r_iload_n (zdk oM_decided 2 rfl) rfl rfl ?_
  refine r_callV1i (M' := mM_isProcess) (zdk oM_decided 3 rfl) lM_M_176 vM_isProcess rfl rfl (Nat.le_of_ble_eq_true rfl) rfl (spM_isProcess d h (nI k)) ?_
  rw [hp]
  refine r_iconst (v := 1) (zdk oM_decided 4 rfl) (by decide) ?_
  refine r_callV2i (M' := mM_goes) (zdk oM_decided 5 rfl) lM_M_85 vM_goes rfl rfl (Nat.le_of_ble_eq_true rfl) rfl (spM_goes d h true true) ?_
  refine r_if_eq (tgt := 26) (zdk oM_decided 6 rfl) (by decide) (fun q9 => absurd q9 ((fBo_t))) (fun _ => ?_)
  refine r_aload_n (zdk oM_decided 7 rfl) rfl rfl ?_
  refine r_getr (kf := 13) (zdk oM_decided 8 rfl) rfl rfl (by decide) lF_M_28 rfl ?_
  refine r_iconst (v := 5) (zdk oM_decided 9 rfl) (by decide) ?_
  refine r_iload_n (zdk oM_decided 10 rfl) rfl rfl ?_
  refine r_imul (zdk oM_decided 11 rfl) ?_
  refine r_tp (pk_mul 5 k) ?_
  refine r_iald (zdk oM_decided 12 rfl) rfl (vp_in_nI (n := 5 * k) (by omega) (by decide)) ?_
  refine r_iconst (v := 1) (zdk oM_decided 13 rfl) (by decide) ?_
  refine r_isub (zdk oM_decided 14 rfl) ?_
  refine r_goto (tgt := 27) (zdk oM_decided 15 rfl) (by decide) ?_
  refine r_iret (zdk oM_decided 17 rfl) rfl ?_
  exact zIh (by rw [nI_clamp (n := 5 * k) (by omega)]; rfl) rfl
theorem spM_message_t (d : Nat) (h : zH) (p : Int32) (hp : decide (¬ p < 0 ∧ ¬ h.1 27 10 ≤ p) = false) : zSP (d + 1) 0 0 mM_message [.inr (.inr 27), .inl p] h (zRef h 1) := by
  refine zmet (by decide +kernel) (Nat.le_of_ble_eq_true rfl) ?_
  refine r_aload_n (zdk oM_message 0 rfl) rfl rfl ?_
  refine r_aload_n (zdk oM_message 1 rfl) rfl rfl ?_
  refine r_iload_n (zdk oM_message 2 rfl) rfl rfl ?_
  refine r_callV1i (M' := mM_isProcess) (zdk oM_message 3 rfl) lM_M_176 vM_isProcess rfl rfl (Nat.le_of_ble_eq_true rfl) rfl (spM_isProcess d h p) ?_
  rw [hp]
  refine r_iconst (v := 1) (zdk oM_message 4 rfl) (by decide) ?_
  refine r_callV2i (M' := mM_goes) (zdk oM_message 5 rfl) lM_M_85 vM_goes rfl rfl (Nat.le_of_ble_eq_true rfl) rfl (spM_goes d h false true) ?_
  refine r_if_eq (tgt := 22) (zdk oM_message 6 rfl) (by decide) (fun _ => ?_) (fun q9 => absurd ((rfl)) q9)
  refine r_iconst (v := 0) (zdk oM_message 12 rfl) (by decide) ?_
  refine r_iret (zdk oM_message 13 rfl) rfl ?_
  exact zIi rfl
theorem spM_message (d : Nat) (h : zH) (k : Nat) (hk : k < 7) (hp : decide (¬ nI k < 0 ∧ ¬ h.1 27 10 ≤ nI k) = true) : zSP (d + 1) 0 0 mM_message [.inr (.inr 27), .inl (nI k)] h (zI (h.1 36 k) (zput h 27 0 0)) := by
  refine zmet (by decide +kernel) (Nat.le_of_ble_eq_true rfl) ?_
  refine r_aload_n (zdk oM_message 0 rfl) rfl rfl ?_
  refine r_aload_n (zdk oM_message 1 rfl) rfl rfl ?_
  refine r_iload_n (zdk oM_message 2 rfl) rfl rfl ?_
  refine r_callV1i (M' := mM_isProcess) (zdk oM_message 3 rfl) lM_M_176 vM_isProcess rfl rfl (Nat.le_of_ble_eq_true rfl) rfl (spM_isProcess d h (nI k)) ?_
  rw [hp]
  refine r_iconst (v := 1) (zdk oM_message 4 rfl) (by decide) ?_
  refine r_callV2i (M' := mM_goes) (zdk oM_message 5 rfl) lM_M_85 vM_goes rfl rfl (Nat.le_of_ble_eq_true rfl) rfl (spM_goes d h true true) ?_
  refine r_if_eq (tgt := 22) (zdk oM_message 6 rfl) (by decide) (fun q9 => absurd q9 ((fBo_t))) (fun _ => ?_)
  refine r_aload_n (zdk oM_message 7 rfl) rfl rfl ?_
  refine r_getr (kf := 15) (zdk oM_message 8 rfl) rfl rfl (by decide) lF_M_34 rfl ?_
  refine r_iload_n (zdk oM_message 9 rfl) rfl rfl ?_
  refine r_iald (zdk oM_message 10 rfl) rfl (vp_in_nI (n := k) (by omega) (by decide)) ?_
  refine r_goto (tgt := 23) (zdk oM_message 11 rfl) (by decide) ?_
  refine r_iret (zdk oM_message 13 rfl) rfl ?_
  exact zIh (by rw [nI_clamp (n := k) (by omega)]; rfl) rfl
theorem spM_state_t (d : Nat) (h : zH) (p v : Int32) (hp : decide (¬ p < 0 ∧ ¬ h.1 27 10 ≤ p) = false ∨ v < 0 ∨ h.1 27 8 ≤ v) : zSP (d + 1) 0 0 mM_state [.inr (.inr 27), .inl p, .inl v] h (zRef h 1) := by
  have bad : zMC false (d + 1) 0 0 0 0 mM_state (zRef h 1) 25 [some (.inr (.inr 27)), some (.inl p), some (.inl v)] [.inr (.inr 27)] h := by
    refine r_iconst (v := 0) (zdk oM_state 13 rfl) (by decide) ?_
    refine r_iconst (v := 1) (zdk oM_state 14 rfl) (by decide) ?_
    refine r_callV2i (M' := mM_goes) (zdk oM_state 15 rfl) lM_M_85 vM_goes rfl rfl (Nat.le_of_ble_eq_true rfl) rfl (spM_goes d h false true) ?_
    refine r_if_eq (tgt := 46) (zdk oM_state 16 rfl) (by decide) (fun _ => ?_) (fun q9 => absurd ((rfl)) q9)
    refine r_iconst (v := 0) (zdk oM_state 26 rfl) (by decide) ?_
    refine r_iret (zdk oM_state 27 rfl) rfl ?_
    exact zIi rfl
  refine zmet (by decide +kernel) (Nat.le_of_ble_eq_true rfl) ?_
  refine r_aload_n (zdk oM_state 0 rfl) rfl rfl ?_
  refine r_aload_n (zdk oM_state 1 rfl) rfl rfl ?_
  refine r_iload_n (zdk oM_state 2 rfl) rfl rfl ?_
  refine r_callV1i (M' := mM_isProcess) (zdk oM_state 3 rfl) lM_M_176 vM_isProcess rfl rfl (Nat.le_of_ble_eq_true rfl) rfl (spM_isProcess d h p) ?_
  cases hb : decide (¬ p < 0 ∧ ¬ h.1 27 10 ≤ p) with
  | false =>
    refine r_if_eq (tgt := 25) (zdk oM_state 4 rfl) (by decide) (fun _ => ?_) (fun q9 => absurd ((rfl)) q9)
    exact bad
  | true =>
    rw [hb] at hp
    have hp := hp.resolve_left (by decide)
    refine r_if_eq (tgt := 25) (zdk oM_state 4 rfl) (by decide) (fun q9 => absurd q9 ((fBo_t))) (fun _ => ?_)
    refine r_iload_n (zdk oM_state 5 rfl) rfl rfl ?_
    refine r_if_lt (tgt := 25) (zdk oM_state 6 rfl) (by decide) (fun h1 => ?_) (fun h1 => ?_)
    · exact bad
    · refine r_iload_n (zdk oM_state 7 rfl) rfl rfl ?_
      refine r_aload_n (zdk oM_state 8 rfl) rfl rfl ?_
      refine r_geti (kf := 8) (zdk oM_state 9 rfl) rfl rfl (by decide) lF_M_113 rfl ?_
      refine r_icmp_ge (tgt := 25) (zdk oM_state 10 rfl) (by decide) (fun _ => ?_) (fun q9 => absurd ((hp.resolve_left h1)) q9)
      exact bad
theorem spM_state (d : Nat) (h : zH) (k v vars : Nat) (hk : k < 7) (hv : v < vars) (v5 : vars ≤ 5) (k8 : h.1 27 8 = nI vars) (hp : decide (¬ nI k < 0 ∧ ¬ h.1 27 10 ≤ nI k) = true) : zSP (d + 1) 0 0 mM_state [.inr (.inr 27), .inl (nI k), .inl (nI v)] h (zI (h.1 34 (5 * k + v)) (zput h 27 0 0)) := by
  refine zmet (by decide +kernel) (Nat.le_of_ble_eq_true rfl) ?_
  refine r_aload_n (zdk oM_state 0 rfl) rfl rfl ?_
  refine r_aload_n (zdk oM_state 1 rfl) rfl rfl ?_
  refine r_iload_n (zdk oM_state 2 rfl) rfl rfl ?_
  refine r_callV1i (M' := mM_isProcess) (zdk oM_state 3 rfl) lM_M_176 vM_isProcess rfl rfl (Nat.le_of_ble_eq_true rfl) rfl (spM_isProcess d h (nI k)) ?_
  rw [hp]
  refine r_if_eq (tgt := 25) (zdk oM_state 4 rfl) (by decide) (fun q9 => absurd q9 ((fBo_t))) (fun _ => ?_)
  refine r_iload_n (zdk oM_state 5 rfl) rfl rfl ?_
  refine r_if_lt (tgt := 25) (zdk oM_state 6 rfl) (by decide) (fun q9 => absurd q9 ((zm1p (by omega)))) (fun _ => ?_)
  refine r_iload_n (zdk oM_state 7 rfl) rfl rfl ?_
  refine r_aload_n (zdk oM_state 8 rfl) rfl rfl ?_
  refine r_geti (kf := 8) (zdk oM_state 9 rfl) rfl rfl (by decide) lF_M_113 rfl ?_
  rw [k8]
  refine r_icmp_ge (tgt := 25) (zdk oM_state 10 rfl) (by decide) (fun q9 => absurd q9 ((nI_ge hv (by omega)))) (fun _ => ?_)
  refine r_iconst (v := 1) (zdk oM_state 11 rfl) (by decide) ?_
  refine r_goto (tgt := 26) (zdk oM_state 12 rfl) (by decide) ?_
  refine r_iconst (v := 1) (zdk oM_state 14 rfl) (by decide) ?_
  refine r_callV2i (M' := mM_goes) (zdk oM_state 15 rfl) lM_M_85 vM_goes rfl rfl (Nat.le_of_ble_eq_true rfl) rfl (spM_goes d h true true) ?_
  refine r_if_eq (tgt := 46) (zdk oM_state 16 rfl) (by decide) (fun q9 => absurd q9 ((fBo_t))) (fun _ => ?_)
  refine r_aload_n (zdk oM_state 17 rfl) rfl rfl ?_
  refine r_getr (kf := 13) (zdk oM_state 18 rfl) rfl rfl (by decide) lF_M_28 rfl ?_
  refine r_iconst (v := 5) (zdk oM_state 19 rfl) (by decide) ?_
  refine r_iload_n (zdk oM_state 20 rfl) rfl rfl ?_
  refine r_imul (zdk oM_state 21 rfl) ?_
  refine r_tp (pk_mul 5 k) ?_
  refine r_iload_n (zdk oM_state 22 rfl) rfl rfl ?_
  refine r_iadd (zdk oM_state 23 rfl) ?_
  refine r_tp (nI_add (5 * k) v) ?_
  refine r_iald (zdk oM_state 24 rfl) rfl (vp_in_nI (n := 5 * k + v) (by omega) (by decide)) ?_
  refine r_goto (tgt := 47) (zdk oM_state 25 rfl) (by decide) ?_
  refine r_iret (zdk oM_state 27 rfl) rfl ?_
  exact zIh (by rw [nI_clamp (n := 5 * k + v) (by omega)]; rfl) rfl
theorem spM_clear (d : Nat) (h : zH) : zSP (d + 1) 0 0 mM_clear [.inr (.inr 27)] h (zI (h.1 27 1) (zput (zput (zput (zput h 27 0 0) 27 1 0) 27 3 0) 27 10 0)) := by
  refine zmet (by decide +kernel) (Nat.le_of_ble_eq_true rfl) ?_
  refine r_aload_n (zdk oM_clear 0 rfl) rfl rfl ?_
  refine r_iconst (v := 0) (zdk oM_clear 1 rfl) (by decide) ?_
  refine r_puti (kf := 0) (zdk oM_clear 2 rfl) rfl rfl (by decide) lF_M_72 rfl rfl (by decide +kernel) (Or.inl rfl) ?_
  refine r_aload_n (zdk oM_clear 3 rfl) rfl rfl ?_
  refine r_geti (kf := 1) (zdk oM_clear 4 rfl) rfl rfl (by decide) lF_M_82 rfl ?_
  refine r_istore_n (zdk oM_clear 5 rfl) rfl (Nat.le_of_ble_eq_true rfl) rfl ?_
  refine r_aload_n (zdk oM_clear 6 rfl) rfl rfl ?_
  refine r_iconst (v := 0) (zdk oM_clear 7 rfl) (by decide) ?_
  refine r_puti (kf := 1) (zdk oM_clear 8 rfl) rfl rfl (by decide) lF_M_82 rfl rfl (by decide +kernel) (Or.inl rfl) ?_
  refine r_aload_n (zdk oM_clear 9 rfl) rfl rfl ?_
  refine r_callV0v (M' := mM_changed) (zdk oM_clear 10 rfl) lM_M_89 vM_changed rfl rfl (Nat.le_of_ble_eq_true rfl) rfl (spM_changed d _) ?_
  refine r_iload_n (zdk oM_clear 11 rfl) rfl rfl ?_
  refine r_iret (zdk oM_clear 12 rfl) rfl ?_
  exact zIh (by simp [zp1]) rfl
theorem spM_word_t (d : Nat) (h : zH) (w : Int32) (hm : h.1 27 1 = nI 400) : zSP (d + 1) 0 0 mM_word [.inr (.inr 27), .inl w] h (zRef h 1) := by
  refine zmet (by decide +kernel) (Nat.le_of_ble_eq_true rfl) ?_
  refine r_aload_n (zdk oM_word 0 rfl) rfl rfl ?_
  refine r_aload_n (zdk oM_word 1 rfl) rfl rfl ?_
  refine r_geti (kf := 1) (zdk oM_word 2 rfl) rfl rfl (by decide) lF_M_82 rfl ?_
  refine r_sipush (v := 400) (zdk oM_word 3 rfl) (by decide) ?_
  rw [hm]
  refine r_icmp_ge (tgt := 15) (zdk oM_word 4 rfl) (by decide) (fun _ => ?_) (fun q9 => absurd ((Int32.le_refl (nI 400))) q9)
  refine r_iconst (v := 0) (zdk oM_word 7 rfl) (by decide) ?_
  refine r_iconst (v := 1) (zdk oM_word 8 rfl) (by decide) ?_
  refine r_callV2i (M' := mM_goes) (zdk oM_word 9 rfl) lM_M_85 vM_goes rfl rfl (Nat.le_of_ble_eq_true rfl) rfl (spM_goes d h false true) ?_
  refine r_if_ne (tgt := 25) (zdk oM_word 10 rfl) (by decide) (fun q9 => absurd ((rfl)) q9) (fun _ => ?_)
  refine r_iconst (v := 0) (zdk oM_word 11 rfl) (by decide) ?_
  refine r_iret (zdk oM_word 12 rfl) rfl ?_
  exact zIi rfl
theorem spM_word (d : Nat) (h : zH) (w : Int32) (n : Nat) (hm : h.1 27 1 = nI n) (hn : n < 400) : zSP (d + 1) 0 0 mM_word [.inr (.inr 27), .inl w] h (zI (nI (n + 1)) (zput (zput (zput (zput (zput h 27 0 0) 28 n w) 27 1 (nI (n + 1))) 27 3 0) 27 10 0)) := by
  have e1 : (zput h 27 0 0).1 27 1 = nI n := by rw [zp1, if_neg (by omega), hm]
  have e2 : (zput (zput h 27 0 0) 28 n w).1 27 1 = nI n := by rw [zp1, if_neg (by omega), e1]
  refine zmet (by decide +kernel) (Nat.le_of_ble_eq_true rfl) ?_
  refine r_aload_n (zdk oM_word 0 rfl) rfl rfl ?_
  refine r_aload_n (zdk oM_word 1 rfl) rfl rfl ?_
  refine r_geti (kf := 1) (zdk oM_word 2 rfl) rfl rfl (by decide) lF_M_82 rfl ?_
  refine r_sipush (v := 400) (zdk oM_word 3 rfl) (by decide) ?_
  rw [hm]
  refine r_icmp_ge (tgt := 15) (zdk oM_word 4 rfl) (by decide) (fun q9 => absurd q9 ((nI_ge (a := n) (b := 400) hn (by decide)))) (fun _ => ?_)
  refine r_iconst (v := 1) (zdk oM_word 5 rfl) (by decide) ?_
  refine r_goto (tgt := 16) (zdk oM_word 6 rfl) (by decide) ?_
  refine r_iconst (v := 1) (zdk oM_word 8 rfl) (by decide) ?_
  refine r_callV2i (M' := mM_goes) (zdk oM_word 9 rfl) lM_M_85 vM_goes rfl rfl (Nat.le_of_ble_eq_true rfl) rfl (spM_goes d h true true) ?_
  refine r_if_ne (tgt := 25) (zdk oM_word 10 rfl) (by decide) (fun _ => ?_) (fun q9 => absurd q9 ((fBo_t)))
  refine r_aload_n (zdk oM_word 13 rfl) rfl rfl ?_
  refine r_getr (kf := 2) (zdk oM_word 14 rfl) rfl rfl (by decide) lF_M_7 rfl ?_
  refine r_aload_n (zdk oM_word 15 rfl) rfl rfl ?_
  refine r_geti (kf := 1) (zdk oM_word 16 rfl) rfl rfl (by decide) lF_M_82 rfl ?_
  rw [show (if true = false then (1 : Int32) else if true = false then 2 else 0) = 0 from rfl, e1]
  refine r_iload_n (zdk oM_word 17 rfl) rfl rfl ?_
  refine r_iast (zdk oM_word 18 rfl) rfl (vp_in_nI (n := n) (by omega) (by decide)) ?_
  refine r_aload_n (zdk oM_word 19 rfl) rfl rfl ?_
  refine r_dup (zdk oM_word 20 rfl) rfl ?_
  refine r_geti (kf := 1) (zdk oM_word 21 rfl) rfl rfl (by decide) lF_M_82 rfl ?_
  rw [nI_clamp (n := n) (by omega), e2]
  refine r_iconst (v := 1) (zdk oM_word 22 rfl) (by decide) ?_
  refine r_iadd (zdk oM_word 23 rfl) ?_
  refine r_tp (nI_1 n) ?_
  refine r_puti (kf := 1) (zdk oM_word 24 rfl) rfl rfl (by decide) lF_M_82 rfl rfl (by decide +kernel) (Or.inl rfl) ?_
  refine r_aload_n (zdk oM_word 25 rfl) rfl rfl ?_
  refine r_callV0v (M' := mM_changed) (zdk oM_word 26 rfl) lM_M_89 vM_changed rfl rfl (Nat.le_of_ble_eq_true rfl) rfl (spM_changed d _) ?_
  refine r_aload_n (zdk oM_word 27 rfl) rfl rfl ?_
  refine r_geti (kf := 1) (zdk oM_word 28 rfl) rfl rfl (by decide) lF_M_82 rfl ?_
  refine r_iret (zdk oM_word 29 rfl) rfl ?_
  exact zIh (by simp [zp1]) rfl
