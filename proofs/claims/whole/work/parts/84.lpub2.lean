/-! the class's public methods, where they answer, going on -/
def zCnC (h : zH) (k : Nat) : Int32 := match k with
  | 0 => h.1 1 3
  | 1 => h.1 1 4
  | 2 => h.1 9 2
  | 3 => h.1 6 2
  | 4 => h.1 14 0
  | _ => h.1 14 1
theorem spL_count (d : Nat) (h : zH) (k : Nat) (hk : k ≤ 5) (hb : h.1 1 4 = 0 ∨ h.1 1 4 = 1) : zSP (d + 1) 0 0 mL_count [.inr (.inr 0), .inl (nI k)] h (zI (zCnC h k) h) := by
  have hk' : k = 0 ∨ k = 1 ∨ k = 2 ∨ k = 3 ∨ k = 4 ∨ k = 5 := by omega
  refine zmet (by decide +kernel) (Nat.le_of_ble_eq_true rfl) ?_
  refine r_iload_n (zdk oL_count 0 rfl) rfl rfl ?_
  rcases hk' with rfl | rfl | rfl | rfl | rfl | rfl
  · refine r_tabIn (off := 39) (tgt := 40) (zdk oL_count 1 rfl) (by decide) (by decide) rfl (by decide) ?_
    refine r_aload_n (zdk oL_count 2 rfl) rfl rfl ?_
    refine r_getr (kf := 0) (zdk oL_count 3 rfl) rfl rfl (by decide) lF_L_10 rfl ?_
    refine r_geti (kf := 3) (zdk oL_count 4 rfl) rfl rfl (by decide) lF_L_36 rfl ?_
    refine r_iret (zdk oL_count 5 rfl) rfl ?_
    exact zIi rfl
  · refine r_tabIn (off := 47) (tgt := 48) (zdk oL_count 1 rfl) (by decide) (by decide) rfl (by decide) ?_
    refine r_aload_n (zdk oL_count 6 rfl) rfl rfl ?_
    refine r_getr (kf := 0) (zdk oL_count 7 rfl) rfl rfl (by decide) lF_L_10 rfl ?_
    refine r_geti (kf := 4) (zdk oL_count 8 rfl) rfl rfl (by decide) lF_L_172 rfl ?_
    rcases hb with e | e
    · refine r_if_eq (tgt := 62) (zdk oL_count 9 rfl) (by decide) (fun _ => ?_) (fun q9 => absurd ((e)) q9)
      refine r_iconst (v := 0) (zdk oL_count 12 rfl) (by decide) ?_
      refine r_iret (zdk oL_count 13 rfl) rfl ?_
      exact zIi (by show 0 = h.1 1 4; rw [e])
    · refine r_if_eq (tgt := 62) (zdk oL_count 9 rfl) (by decide) (fun q9 => absurd q9 ((by rw [e]; decide))) (fun _ => ?_)
      refine r_iconst (v := 1) (zdk oL_count 10 rfl) (by decide) ?_
      refine r_goto (tgt := 63) (zdk oL_count 11 rfl) (by decide) ?_
      refine r_iret (zdk oL_count 13 rfl) rfl ?_
      exact zIi (by show 1 = h.1 1 4; rw [e])
  · refine r_tabIn (off := 63) (tgt := 64) (zdk oL_count 1 rfl) (by decide) (by decide) rfl (by decide) ?_
    refine r_aload_n (zdk oL_count 14 rfl) rfl rfl ?_
    refine r_getr (kf := 2) (zdk oL_count 15 rfl) rfl rfl (by decide) lF_L_25 rfl ?_
    refine r_callV0i (M' := mR_processes) (zdk oL_count 16 rfl) lM_L_121 vR_processes rfl rfl (Nat.le_of_ble_eq_true rfl) rfl (spR_processes d h) ?_
    refine r_iret (zdk oL_count 17 rfl) rfl ?_
    exact zIi rfl
  · refine r_tabIn (off := 71) (tgt := 72) (zdk oL_count 1 rfl) (by decide) (by decide) rfl (by decide) ?_
    refine r_aload_n (zdk oL_count 18 rfl) rfl rfl ?_
    refine r_getr (kf := 2) (zdk oL_count 19 rfl) rfl rfl (by decide) lF_L_25 rfl ?_
    refine r_geti (kf := 2) (zdk oL_count 20 rfl) rfl rfl (by decide) lF_L_124 rfl ?_
    refine r_iret (zdk oL_count 21 rfl) rfl ?_
    exact zIi rfl
  · refine r_tabIn (off := 79) (tgt := 80) (zdk oL_count 1 rfl) (by decide) (by decide) rfl (by decide) ?_
    refine r_aload_n (zdk oL_count 22 rfl) rfl rfl ?_
    refine r_getr (kf := 3) (zdk oL_count 23 rfl) rfl rfl (by decide) lF_L_32 rfl ?_
    refine r_geti (kf := 0) (zdk oL_count 24 rfl) rfl rfl (by decide) lF_L_176 rfl ?_
    refine r_iret (zdk oL_count 25 rfl) rfl ?_
    exact zIi rfl
  · refine r_tabIn (off := 87) (tgt := 88) (zdk oL_count 1 rfl) (by decide) (by decide) rfl (by decide) ?_
    refine r_aload_n (zdk oL_count 26 rfl) rfl rfl ?_
    refine r_getr (kf := 3) (zdk oL_count 27 rfl) rfl rfl (by decide) lF_L_32 rfl ?_
    refine r_geti (kf := 1) (zdk oL_count 28 rfl) rfl rfl (by decide) lF_L_179 rfl ?_
    refine r_iret (zdk oL_count 29 rfl) rfl ?_
    exact zIi rfl
theorem spL_hear (d : Nat) (h : zH) (k np : Nat) (s : Int32) (hp : h.1 9 2 = nI np) (hk : k < np) (np7 : np ≤ 7) (hs : s &&& (nI (2 ^ np - 1) ^^^ -1) = 0) : zSP (d + 2) 0 0 mL_hear [.inr (.inr 0), .inl (nI k), .inl s] h (zI (h.1 7 k) (zput h 7 k s)) := by
  have ek : (nI k).toNatClampNeg = k := nI_clamp (by omega)
  refine zmet (by decide +kernel) (Nat.le_of_ble_eq_true rfl) ?_
  refine r_aload_n (zdk oL_hear 0 rfl) rfl rfl ?_
  refine r_iload_n (zdk oL_hear 1 rfl) rfl rfl ?_
  refine r_callV1v (M' := mL_requireProcess) (zdk oL_hear 2 rfl) lM_L_107 vL_requireProcess rfl rfl (Nat.le_of_ble_eq_true rfl) rfl (spL_requireProcess d h k np hp hk np7) ?_
  refine r_iload_n (zdk oL_hear 3 rfl) rfl rfl ?_
  refine r_aload_n (zdk oL_hear 4 rfl) rfl rfl ?_
  refine r_getr (kf := 2) (zdk oL_hear 5 rfl) rfl rfl (by decide) lF_L_25 rfl ?_
  refine r_callV0i (M' := mR_all) (zdk oL_hear 6 rfl) lM_L_110 vR_all rfl rfl (Nat.le_of_ble_eq_true rfl) rfl (spR_all (d + 1) h np hp np7) ?_
  refine r_iconst (v := -1) (zdk oL_hear 7 rfl) (by decide) ?_
  refine r_ixor (zdk oL_hear 8 rfl) ?_
  refine r_iand (zdk oL_hear 9 rfl) ?_
  refine r_if_eq (tgt := 29) (zdk oL_hear 10 rfl) (by decide) (fun _ => ?_) (fun q9 => absurd ((hs)) q9)
  refine r_aload_n (zdk oL_hear 16 rfl) rfl rfl ?_
  refine r_getr (kf := 2) (zdk oL_hear 17 rfl) rfl rfl (by decide) lF_L_25 rfl ?_
  refine r_getr (kf := 1) (zdk oL_hear 18 rfl) rfl rfl (by decide) lF_L_118 rfl ?_
  refine r_iload_n (zdk oL_hear 19 rfl) rfl rfl ?_
  refine r_iald (zdk oL_hear 20 rfl) rfl (vp_in_nI (n := k) (by omega) (by decide)) ?_
  refine r_istore_n (zdk oL_hear 21 rfl) rfl (Nat.le_of_ble_eq_true rfl) rfl ?_
  refine r_aload_n (zdk oL_hear 22 rfl) rfl rfl ?_
  refine r_getr (kf := 2) (zdk oL_hear 23 rfl) rfl rfl (by decide) lF_L_25 rfl ?_
  refine r_getr (kf := 1) (zdk oL_hear 24 rfl) rfl rfl (by decide) lF_L_118 rfl ?_
  refine r_iload_n (zdk oL_hear 25 rfl) rfl rfl ?_
  refine r_iload_n (zdk oL_hear 26 rfl) rfl rfl ?_
  refine r_iast (zdk oL_hear 27 rfl) rfl (vp_in_nI (n := k) (by omega) (by decide)) ?_
  refine r_iload_n (zdk oL_hear 28 rfl) rfl rfl ?_
  refine r_iret (zdk oL_hear 29 rfl) rfl ?_
  exact zIh (by rw [ek]) (by rw [ek])
theorem spL_round (d : Nat) (h : zH) (n ph vars np r : Nat) (hck : zChk h n ph vars) (hn : n ≤ 400) (hp : h.1 9 2 = nI np) (np1 : 1 ≤ np) (np7 : np ≤ 7) (hr0 : h.1 6 2 = nI r) (hr : r < 60) (hval : ∀ p v, p < np → v < vars → fGood (h.1 12 (5 * p + v))) (hm : ∀ i, i < 7 → fGood (h.1 11 i)) (hs : ∀ p, p < np → ∃ k, k < 2 ^ np ∧ h.1 7 p = nI k) :
    zSP (d + 5) 0 0 mL_round [.inr (.inr 0)] h (fun r0 h' => r0 = .inl (some (.inl (nI (r + 1)))) ∧ zGo h n ph vars np r h') := by
  refine zmet (by decide +kernel) (Nat.le_of_ble_eq_true rfl) ?_
  refine r_aload_n (zdk oL_round 0 rfl) rfl rfl ?_
  refine r_getr (kf := 2) (zdk oL_round 1 rfl) rfl rfl (by decide) lF_L_25 rfl ?_
  refine r_callV0i (M' := mR_processes) (zdk oL_round 2 rfl) lM_L_121 vR_processes rfl rfl (Nat.le_of_ble_eq_true rfl) rfl (spR_processes (d + 4) h) ?_
  rw [hp]
  refine r_if_eq (tgt := 22) (zdk oL_round 3 rfl) (by decide) (fun q9 => absurd q9 ((nI_ne0 (by omega) (by omega)))) (fun _ => ?_)
  refine r_aload_n (zdk oL_round 4 rfl) rfl rfl ?_
  refine r_getr (kf := 2) (zdk oL_round 5 rfl) rfl rfl (by decide) lF_L_25 rfl ?_
  refine r_geti (kf := 2) (zdk oL_round 6 rfl) rfl rfl (by decide) lF_L_124 rfl ?_
  refine r_bipush (v := 60) (zdk oL_round 7 rfl) (by decide) ?_
  rw [hr0]
  refine r_icmp_ne (tgt := 32) (zdk oL_round 8 rfl) (by decide) (fun _ => ?_) (fun q9 => absurd q9 ((fun z => absurd (nI_inj (by omega) (by decide) (show nI r = nI 60 from z)) (by omega))))
  refine r_aload_n (zdk oL_round 14 rfl) rfl rfl ?_
  refine r_getr (kf := 2) (zdk oL_round 15 rfl) rfl rfl (by decide) lF_L_25 rfl ?_
  refine r_callV0 (M' := mR_goOn) (zdk oL_round 16 rfl) lM_L_129 vR_goOn rfl rfl (Nat.le_of_ble_eq_true rfl) rfl (spR_goOn d h n ph vars np r hck hn hp np1 np7 hr0 (by omega) hval hm hs) ?_
  intro r0 h1 q
  obtain ⟨e, q⟩ := q
  cases e
  refine r_aload_n (zdk oL_round 17 rfl) rfl rfl ?_
  refine r_getr (kf := 2) (zdk oL_round 18 rfl) rfl rfl (by decide) lF_L_25 rfl ?_
  refine r_geti (kf := 2) (zdk oL_round 19 rfl) rfl rfl (by decide) lF_L_124 rfl ?_
  refine r_iret (zdk oL_round 20 rfl) rfl ?_
  exact ⟨by rw [q.2.1], q⟩
theorem spL_state (d : Nat) (h : zH) (k np v vars : Nat) (hp : h.1 9 2 = nI np) (hk : k < np) (np7 : np ≤ 7) (hv : v < vars) (v5 : vars ≤ 5) (k6 : h.1 1 6 = nI vars) : zSP (d + 2) 0 0 mL_state [.inr (.inr 0), .inl (nI k), .inl (nI v)] h (zI (h.1 12 (5 * k + v)) h) := by
  refine zmet (by decide +kernel) (Nat.le_of_ble_eq_true rfl) ?_
  refine r_aload_n (zdk oL_state 0 rfl) rfl rfl ?_
  refine r_iload_n (zdk oL_state 1 rfl) rfl rfl ?_
  refine r_callV1v (M' := mL_requireProcess) (zdk oL_state 2 rfl) lM_L_107 vL_requireProcess rfl rfl (Nat.le_of_ble_eq_true rfl) rfl (spL_requireProcess d h k np hp hk np7) ?_
  refine r_iload_n (zdk oL_state 3 rfl) rfl rfl ?_
  refine r_if_lt (tgt := 20) (zdk oL_state 4 rfl) (by decide) (fun q9 => absurd q9 ((zm1p (by omega)))) (fun _ => ?_)
  refine r_iload_n (zdk oL_state 5 rfl) rfl rfl ?_
  refine r_aload_n (zdk oL_state 6 rfl) rfl rfl ?_
  refine r_getr (kf := 0) (zdk oL_state 7 rfl) rfl rfl (by decide) lF_L_10 rfl ?_
  refine r_geti (kf := 6) (zdk oL_state 8 rfl) rfl rfl (by decide) lF_L_85 rfl ?_
  rw [k6]
  refine r_icmp_lt (tgt := 30) (zdk oL_state 9 rfl) (by decide) (fun _ => ?_) (fun q9 => absurd ((Int32.not_le.mp (nI_ge hv (by omega)))) q9)
  refine r_aload_n (zdk oL_state 15 rfl) rfl rfl ?_
  refine r_getr (kf := 2) (zdk oL_state 16 rfl) rfl rfl (by decide) lF_L_25 rfl ?_
  refine r_getr (kf := 0) (zdk oL_state 17 rfl) rfl rfl (by decide) lF_L_134 rfl ?_
  refine r_iload_n (zdk oL_state 18 rfl) rfl rfl ?_
  refine r_iload_n (zdk oL_state 19 rfl) rfl rfl ?_
  refine r_callV2i (M' := mG_valueOf) (zdk oL_state 20 rfl) lM_L_138 vG_valueOf rfl rfl (Nat.le_of_ble_eq_true rfl) rfl (spG_valueOf_9 (d + 1) h (nI k) (nI v) (by rw [x5v]; exact vp_in_nI (by omega) (by decide))) ?_
  refine r_iret (zdk oL_state 21 rfl) rfl ?_
  exact zIi (by rw [x5v, nI_clamp (n := 5 * k + v) (by omega)])
theorem spL_decided (d : Nat) (h : zH) (k np : Nat) (hp : h.1 9 2 = nI np) (hk : k < np) (np7 : np ≤ 7) : zSP (d + 2) 0 0 mL_decided [.inr (.inr 0), .inl (nI k)] h (zI (h.1 12 (5 * k) - 1) h) := by
  have e5 : (nI k * 5 + 0 : Int32) = nI (5 * k) := by
    have := x5v k 0
    rw [Nat.add_zero] at this
    exact this
  refine zmet (by decide +kernel) (Nat.le_of_ble_eq_true rfl) ?_
  refine r_aload_n (zdk oL_decided 0 rfl) rfl rfl ?_
  refine r_iload_n (zdk oL_decided 1 rfl) rfl rfl ?_
  refine r_callV1v (M' := mL_requireProcess) (zdk oL_decided 2 rfl) lM_L_107 vL_requireProcess rfl rfl (Nat.le_of_ble_eq_true rfl) rfl (spL_requireProcess d h k np hp hk np7) ?_
  refine r_aload_n (zdk oL_decided 3 rfl) rfl rfl ?_
  refine r_getr (kf := 2) (zdk oL_decided 4 rfl) rfl rfl (by decide) lF_L_25 rfl ?_
  refine r_getr (kf := 0) (zdk oL_decided 5 rfl) rfl rfl (by decide) lF_L_134 rfl ?_
  refine r_iload_n (zdk oL_decided 6 rfl) rfl rfl ?_
  refine r_iconst (v := 0) (zdk oL_decided 7 rfl) (by decide) ?_
  refine r_callV2i (M' := mG_valueOf) (zdk oL_decided 8 rfl) lM_L_138 vG_valueOf rfl rfl (Nat.le_of_ble_eq_true rfl) rfl (spG_valueOf_9 (d + 1) h (nI k) 0 (by rw [e5]; exact vp_in_nI (by omega) (by decide))) ?_
  rw [e5, nI_clamp (n := 5 * k) (by omega)]
  refine r_istore_n (zdk oL_decided 9 rfl) rfl (Nat.le_of_ble_eq_true rfl) rfl ?_
  refine r_iload_n (zdk oL_decided 10 rfl) rfl rfl ?_
  by_cases e : h.1 12 (5 * k) = 0
  · refine r_if_ne (tgt := 26) (zdk oL_decided 11 rfl) (by decide) (fun q9 => absurd ((e)) q9) (fun _ => ?_)
    refine r_iconst (v := -1) (zdk oL_decided 12 rfl) (by decide) ?_
    refine r_goto (tgt := 29) (zdk oL_decided 13 rfl) (by decide) ?_
    refine r_iret (zdk oL_decided 17 rfl) rfl ?_
    exact zIi (by rw [e]; decide)
  · refine r_if_ne (tgt := 26) (zdk oL_decided 11 rfl) (by decide) (fun _ => ?_) (fun q9 => absurd q9 ((e)))
    refine r_iload_n (zdk oL_decided 14 rfl) rfl rfl ?_
    refine r_iconst (v := 1) (zdk oL_decided 15 rfl) (by decide) ?_
    refine r_isub (zdk oL_decided 16 rfl) ?_
    refine r_iret (zdk oL_decided 17 rfl) rfl ?_
    exact zIi rfl
theorem spL_message (d : Nat) (h : zH) (k np : Nat) (hp : h.1 9 2 = nI np) (hk : k < np) (np7 : np ≤ 7) : zSP (d + 2) 0 0 mL_message [.inr (.inr 0), .inl (nI k)] h (zI (if h.1 6 2 = 0 then -1 else h.1 11 k) h) := by
  refine zmet (by decide +kernel) (Nat.le_of_ble_eq_true rfl) ?_
  refine r_aload_n (zdk oL_message 0 rfl) rfl rfl ?_
  refine r_iload_n (zdk oL_message 1 rfl) rfl rfl ?_
  refine r_callV1v (M' := mL_requireProcess) (zdk oL_message 2 rfl) lM_L_107 vL_requireProcess rfl rfl (Nat.le_of_ble_eq_true rfl) rfl (spL_requireProcess d h k np hp hk np7) ?_
  refine r_aload_n (zdk oL_message 3 rfl) rfl rfl ?_
  refine r_getr (kf := 2) (zdk oL_message 4 rfl) rfl rfl (by decide) lF_L_25 rfl ?_
  refine r_geti (kf := 2) (zdk oL_message 5 rfl) rfl rfl (by decide) lF_L_124 rfl ?_
  by_cases e : h.1 6 2 = 0
  · refine r_if_ne (tgt := 19) (zdk oL_message 6 rfl) (by decide) (fun q9 => absurd ((e)) q9) (fun _ => ?_)
    refine r_iconst (v := -1) (zdk oL_message 7 rfl) (by decide) ?_
    refine r_goto (tgt := 34) (zdk oL_message 8 rfl) (by decide) ?_
    refine r_iret (zdk oL_message 16 rfl) rfl ?_
    exact zIi (by rw [if_pos e])
  · refine r_if_ne (tgt := 19) (zdk oL_message 6 rfl) (by decide) (fun _ => ?_) (fun q9 => absurd q9 ((e)))
    refine r_aload_n (zdk oL_message 9 rfl) rfl rfl ?_
    refine r_getr (kf := 2) (zdk oL_message 10 rfl) rfl rfl (by decide) lF_L_25 rfl ?_
    refine r_getr (kf := 0) (zdk oL_message 11 rfl) rfl rfl (by decide) lF_L_134 rfl ?_
    refine r_getr (kf := 0) (zdk oL_message 12 rfl) rfl rfl (by decide) lF_L_143 rfl ?_
    refine r_getr (kf := 0) (zdk oL_message 13 rfl) rfl rfl (by decide) lF_L_147 rfl ?_
    refine r_iload_n (zdk oL_message 14 rfl) rfl rfl ?_
    refine r_iald (zdk oL_message 15 rfl) rfl (vp_in_nI (n := k) (by omega) (by decide)) ?_
    refine r_iret (zdk oL_message 16 rfl) rfl ?_
    exact zIi (by rw [if_neg e, nI_clamp (n := k) (by omega)])
theorem spL_deep (d : Nat) (h : zH) (f q ph vars : Nat) (hc : h.1 1 4 = fBo true) (k5 : h.1 1 5 = nI ph) (k6 : h.1 1 6 = nI vars) (p4 : ph ≤ 4) (v5 : vars ≤ 5) (hf : f < ph) (hq : q ≤ vars) : zSP (d + 1) 0 0 mL_deep [.inr (.inr 0), .inl (nI f), .inl (nI q - 1)] h (zI (h.1 4 (f * (vars + 1) + q)) h) := by
  have e1 : ¬ (nI q - 1 : Int32) < -1 := by
    have key : ∀ q : Fin 6, ¬ (nI q.val - 1 : Int32) < -1 := by decide +kernel
    exact key ⟨q, by omega⟩
  have e2 : ¬ nI vars ≤ nI q - 1 := by
    rcases Nat.eq_zero_or_pos q with z | z
    · subst z
      rw [Int32.not_le]
      have key : ∀ v : Fin 6, nI 0 - 1 < nI v.val := by decide +kernel
      exact key ⟨vars, by omega⟩
    · obtain ⟨q', rfl⟩ : ∃ q', q = q' + 1 := ⟨q - 1, by omega⟩
      rw [zm1s]
      exact nI_ge (by omega) (by omega)
  have e3 : nI f * (h.1 1 6 + 1) + 1 + (nI q - 1) = nI (f * (vars + 1) + q) := by
    rw [k6, nI_1, pk_mul, ← nI_add]
    generalize nI (f * (vars + 1)) = a
    generalize nI q = b
    grind
  have hb : f * (vars + 1) + q < 24 := by
    have := Nat.mul_le_mul (show f ≤ 3 by omega) (show vars + 1 ≤ 6 by omega)
    omega
  refine zmet (by decide +kernel) (Nat.le_of_ble_eq_true rfl) ?_
  refine r_aload_n (zdk oL_deep 0 rfl) rfl rfl ?_
  refine r_callV0v (M' := mL_requireProgram) (zdk oL_deep 1 rfl) lM_L_79 vL_requireProgram rfl rfl (Nat.le_of_ble_eq_true rfl) rfl (spL_requireProgram d h hc) ?_
  refine r_iload_n (zdk oL_deep 2 rfl) rfl rfl ?_
  refine r_if_lt (tgt := 35) (zdk oL_deep 3 rfl) (by decide) (fun q9 => absurd q9 ((zm1p (by omega)))) (fun _ => ?_)
  refine r_iload_n (zdk oL_deep 4 rfl) rfl rfl ?_
  refine r_aload_n (zdk oL_deep 5 rfl) rfl rfl ?_
  refine r_getr (kf := 0) (zdk oL_deep 6 rfl) rfl rfl (by decide) lF_L_10 rfl ?_
  refine r_geti (kf := 5) (zdk oL_deep 7 rfl) rfl rfl (by decide) lF_L_82 rfl ?_
  rw [k5]
  refine r_icmp_ge (tgt := 35) (zdk oL_deep 8 rfl) (by decide) (fun q9 => absurd q9 ((nI_ge hf (by omega)))) (fun _ => ?_)
  refine r_iload_n (zdk oL_deep 9 rfl) rfl rfl ?_
  refine r_iconst (v := -1) (zdk oL_deep 10 rfl) (by decide) ?_
  refine r_icmp_lt (tgt := 35) (zdk oL_deep 11 rfl) (by decide) (fun q9 => absurd q9 ((e1))) (fun _ => ?_)
  refine r_iload_n (zdk oL_deep 12 rfl) rfl rfl ?_
  refine r_aload_n (zdk oL_deep 13 rfl) rfl rfl ?_
  refine r_getr (kf := 0) (zdk oL_deep 14 rfl) rfl rfl (by decide) lF_L_10 rfl ?_
  refine r_geti (kf := 6) (zdk oL_deep 15 rfl) rfl rfl (by decide) lF_L_85 rfl ?_
  rw [k6]
  refine r_icmp_lt (tgt := 45) (zdk oL_deep 16 rfl) (by decide) (fun _ => ?_) (fun q9 => absurd ((Int32.not_le.mp e2)) q9)
  refine r_aload_n (zdk oL_deep 22 rfl) rfl rfl ?_
  refine r_getr (kf := 0) (zdk oL_deep 23 rfl) rfl rfl (by decide) lF_L_10 rfl ?_
  refine r_getr (kf := 2) (zdk oL_deep 24 rfl) rfl rfl (by decide) lF_L_90 rfl ?_
  refine r_aload_n (zdk oL_deep 25 rfl) rfl rfl ?_
  refine r_getr (kf := 0) (zdk oL_deep 26 rfl) rfl rfl (by decide) lF_L_10 rfl ?_
  refine r_iload_n (zdk oL_deep 27 rfl) rfl rfl ?_
  refine r_iload_n (zdk oL_deep 28 rfl) rfl rfl ?_
  refine r_callV2i (M' := mP_expressionFor) (zdk oL_deep 29 rfl) lM_L_93 vP_expressionFor rfl rfl (Nat.le_of_ble_eq_true rfl) rfl (spP_expressionFor d h (nI f) (nI q - 1)) ?_
  rw [e3]
  refine r_iald (zdk oL_deep 30 rfl) rfl (vp_in_nI (n := f * (vars + 1) + q) (by omega) (by decide)) ?_
  refine r_iret (zdk oL_deep 31 rfl) rfl ?_
  exact zIi (by rw [nI_clamp (n := f * (vars + 1) + q) (by omega)])
