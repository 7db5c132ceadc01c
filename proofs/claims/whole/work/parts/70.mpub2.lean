/-! the reference's public methods, going on -/
def zGs : Int32 := (if true = false then (1 : Int32) else if true = false then 2 else 0)
theorem zw_t {v lo hi : Int32} (h : ¬ v < lo ∧ ¬ hi < v) : fBo (decide (¬ v < lo ∧ ¬ hi < v)) = fBo true := by rw [decide_eq_true h]
theorem zw_f {v lo hi : Int32} (h : ¬ (¬ v < lo ∧ ¬ hi < v)) : fBo (decide (¬ v < lo ∧ ¬ hi < v)) = fBo false := by rw [decide_eq_false h]
theorem spM_count_t (d : Nat) (h : zH) (w : Int32) (hw : ¬ (¬ w < 0 ∧ ¬ 5 < w)) : zSP (d + 1) 0 0 mM_count [.inr (.inr 27), .inl w] h (zRef h 1) := by
  refine zmet (by decide +kernel) (Nat.le_of_ble_eq_true rfl) ?_
  refine r_aload_n (zdk oM_count 0 rfl) rfl rfl ?_
  refine r_iload_n (zdk oM_count 1 rfl) rfl rfl ?_
  refine r_iconst (v := 0) (zdk oM_count 2 rfl) (by decide) ?_
  refine r_iconst (v := 5) (zdk oM_count 3 rfl) (by decide) ?_
  refine r_callS3i (M' := mM_within) (zdk oM_count 4 rfl) lM_M_100 sM_within (Nat.le_of_ble_eq_true rfl) rfl (spM_within d h w 0 5) ?_
  rw [zw_f hw]
  refine r_iconst (v := 1) (zdk oM_count 5 rfl) (by decide) ?_
  refine r_callV2i (M' := mM_goes) (zdk oM_count 6 rfl) lM_M_85 vM_goes rfl rfl (Nat.le_of_ble_eq_true rfl) rfl (spM_goes d h false true) ?_
  refine r_if_ne (tgt := 16) (zdk oM_count 7 rfl) (by decide) (fun q9 => absurd ((rfl)) q9) (fun _ => ?_)
  refine r_iconst (v := 0) (zdk oM_count 8 rfl) (by decide) ?_
  refine r_iret (zdk oM_count 9 rfl) rfl ?_
  exact zIi rfl
def zCnt (h : zH) (k : Nat) : Int32 := match k with
  | 0 => h.1 27 1
  | 1 => h.1 27 3
  | 2 => h.1 27 10
  | 3 => if h.1 27 10 = 0 then 0 else h.1 27 11
  | 4 => h.1 27 21
  | _ => h.1 27 26
theorem spM_count (d : Nat) (h : zH) (k : Nat) (hk : k ≤ 5) (hb : h.1 27 3 = 0 ∨ h.1 27 3 = 1) : zSP (d + 1) 0 0 mM_count [.inr (.inr 27), .inl (nI k)] h (zI (zCnt h k) (zput h 27 0 0)) := by
  have hk' : k = 0 ∨ k = 1 ∨ k = 2 ∨ k = 3 ∨ k = 4 ∨ k = 5 := by omega
  have g : ∀ j, ¬ j = 0 → (zput h 27 0 0).1 27 j = h.1 27 j := fun j hj => by rw [zp1, if_neg (by omega)]
  refine zmet (by decide +kernel) (Nat.le_of_ble_eq_true rfl) ?_
  refine r_aload_n (zdk oM_count 0 rfl) rfl rfl ?_
  refine r_iload_n (zdk oM_count 1 rfl) rfl rfl ?_
  refine r_iconst (v := 0) (zdk oM_count 2 rfl) (by decide) ?_
  refine r_iconst (v := 5) (zdk oM_count 3 rfl) (by decide) ?_
  refine r_callS3i (M' := mM_within) (zdk oM_count 4 rfl) lM_M_100 sM_within (Nat.le_of_ble_eq_true rfl) rfl (spM_within d h (nI k) 0 5) ?_
  rw [zw_t (v := nI k) (lo := 0) (hi := 5) ⟨zm1p (by omega), Int32.not_lt.mpr (nI_lel (b := 5) hk (by decide))⟩]
  refine r_iconst (v := 1) (zdk oM_count 5 rfl) (by decide) ?_
  refine r_callV2i (M' := mM_goes) (zdk oM_count 6 rfl) lM_M_85 vM_goes rfl rfl (Nat.le_of_ble_eq_true rfl) rfl (spM_goes d h true true) ?_
  refine r_if_ne (tgt := 16) (zdk oM_count 7 rfl) (by decide) (fun _ => ?_) (fun q9 => absurd q9 ((fBo_t)))
  refine r_iload_n (zdk oM_count 10 rfl) rfl rfl ?_
  rcases hk' with rfl | rfl | rfl | rfl | rfl | rfl
  · refine r_tabIn (off := 35) (tgt := 52) (zdk oM_count 11 rfl) (by decide) (by decide) rfl (by decide) ?_
    refine r_aload_n (zdk oM_count 12 rfl) rfl rfl ?_
    refine r_geti (kf := 1) (zdk oM_count 13 rfl) rfl rfl (by decide) lF_M_82 rfl ?_
    refine r_iret (zdk oM_count 14 rfl) rfl ?_
    exact zIh (g 1 (by decide)) rfl
  · refine r_tabIn (off := 40) (tgt := 57) (zdk oM_count 11 rfl) (by decide) (by decide) rfl (by decide) ?_
    refine r_aload_n (zdk oM_count 15 rfl) rfl rfl ?_
    refine r_geti (kf := 3) (zdk oM_count 16 rfl) rfl rfl (by decide) lF_M_75 rfl ?_
    rw [show (zput h 27 0 (if true = false then 1 else if true = false then 2 else 0)).1 27 3 = h.1 27 3 from g 3 (by decide)]
    rcases hb with e | e
    · rw [e]
      refine r_if_eq (tgt := 68) (zdk oM_count 17 rfl) (by decide) (fun _ => ?_) (fun q9 => absurd ((rfl)) q9)
      refine r_iconst (v := 0) (zdk oM_count 20 rfl) (by decide) ?_
      refine r_iret (zdk oM_count 21 rfl) rfl ?_
      exact zIh (by show 0 = h.1 27 3; rw [e]) rfl
    · rw [e]
      refine r_if_eq (tgt := 68) (zdk oM_count 17 rfl) (by decide) (fun q9 => absurd q9 ((by decide))) (fun _ => ?_)
      refine r_iconst (v := 1) (zdk oM_count 18 rfl) (by decide) ?_
      refine r_goto (tgt := 69) (zdk oM_count 19 rfl) (by decide) ?_
      refine r_iret (zdk oM_count 21 rfl) rfl ?_
      exact zIh (by show 1 = h.1 27 3; rw [e]) rfl
  · refine r_tabIn (off := 53) (tgt := 70) (zdk oM_count 11 rfl) (by decide) (by decide) rfl (by decide) ?_
    refine r_aload_n (zdk oM_count 22 rfl) rfl rfl ?_
    refine r_geti (kf := 10) (zdk oM_count 23 rfl) rfl rfl (by decide) lF_M_79 rfl ?_
    refine r_iret (zdk oM_count 24 rfl) rfl ?_
    exact zIh (g 10 (by decide)) rfl
  · refine r_tabIn (off := 58) (tgt := 75) (zdk oM_count 11 rfl) (by decide) (by decide) rfl (by decide) ?_
    refine r_aload_n (zdk oM_count 25 rfl) rfl rfl ?_
    refine r_geti (kf := 10) (zdk oM_count 26 rfl) rfl rfl (by decide) lF_M_79 rfl ?_
    rw [show (zput h 27 0 (if true = false then 1 else if true = false then 2 else 0)).1 27 10 = h.1 27 10 from g 10 (by decide)]
    by_cases e : h.1 27 10 = 0
    · refine r_if_ne (tgt := 86) (zdk oM_count 27 rfl) (by decide) (fun q9 => absurd ((e)) q9) (fun _ => ?_)
      refine r_iconst (v := 0) (zdk oM_count 28 rfl) (by decide) ?_
      refine r_goto (tgt := 90) (zdk oM_count 29 rfl) (by decide) ?_
      refine r_iret (zdk oM_count 32 rfl) rfl ?_
      exact zIh (by show 0 = (if h.1 27 10 = 0 then 0 else h.1 27 11); rw [if_pos e]) rfl
    · refine r_if_ne (tgt := 86) (zdk oM_count 27 rfl) (by decide) (fun _ => ?_) (fun q9 => absurd q9 ((e)))
      refine r_aload_n (zdk oM_count 30 rfl) rfl rfl ?_
      refine r_geti (kf := 11) (zdk oM_count 31 rfl) rfl rfl (by decide) lF_M_164 rfl ?_
      refine r_iret (zdk oM_count 32 rfl) rfl ?_
      exact zIh (by show _ = (if h.1 27 10 = 0 then 0 else h.1 27 11); rw [if_neg e]; exact g 11 (by decide)) rfl
  · refine r_tabIn (off := 74) (tgt := 91) (zdk oM_count 11 rfl) (by decide) (by decide) rfl (by decide) ?_
    refine r_aload_n (zdk oM_count 33 rfl) rfl rfl ?_
    refine r_geti (kf := 21) (zdk oM_count 34 rfl) rfl rfl (by decide) lF_M_185 rfl ?_
    refine r_iret (zdk oM_count 35 rfl) rfl ?_
    exact zIh (g 21 (by decide)) rfl
  · refine r_tabOut (tgt := 96) (zdk oM_count 11 rfl) (by decide) (by decide) ?_
    refine r_aload_n (zdk oM_count 36 rfl) rfl rfl ?_
    refine r_geti (kf := 26) (zdk oM_count 37 rfl) rfl rfl (by decide) lF_M_56 rfl ?_
    refine r_iret (zdk oM_count 38 rfl) rfl ?_
    exact zIh (g 26 (by decide)) rfl
theorem spM_builtin_t (d : Nat) (h : zH) (w : Int32) (hw : ¬ (¬ w < 0 ∧ ¬ 2 < w)) : zSP (d + 3) 0 0 mM_builtin [.inr (.inr 27), .inl w] h (zRef h 1) := by
  refine zmet (by decide +kernel) (Nat.le_of_ble_eq_true rfl) ?_
  refine r_aload_n (zdk oM_builtin 0 rfl) rfl rfl ?_
  refine r_iload_n (zdk oM_builtin 1 rfl) rfl rfl ?_
  refine r_iconst (v := 0) (zdk oM_builtin 2 rfl) (by decide) ?_
  refine r_iconst (v := 2) (zdk oM_builtin 3 rfl) (by decide) ?_
  refine r_callS3i (M' := mM_within) (zdk oM_builtin 4 rfl) lM_M_100 sM_within (Nat.le_of_ble_eq_true rfl) rfl (spM_within (d + 2) h w 0 2) ?_
  rw [zw_f hw]
  refine r_iconst (v := 1) (zdk oM_builtin 5 rfl) (by decide) ?_
  refine r_callV2i (M' := mM_goes) (zdk oM_builtin 6 rfl) lM_M_85 vM_goes rfl rfl (Nat.le_of_ble_eq_true rfl) rfl (spM_goes (d + 2) h false true) ?_
  refine r_if_ne (tgt := 16) (zdk oM_builtin 7 rfl) (by decide) (fun q9 => absurd ((rfl)) q9) (fun _ => ?_)
  refine r_iconst (v := 0) (zdk oM_builtin 8 rfl) (by decide) ?_
  refine r_iret (zdk oM_builtin 9 rfl) rfl ?_
  exact zIi rfl
def wT (k : Nat) : List Int32 := if k = 0 then wT1 else if k = 1 then wT2 else wT3
theorem spM_builtin (d : Nat) (h : zH) (k : Nat) (hk : k ≤ 2) : zSP (d + 3) 0 0 mM_builtin [.inr (.inr 27), .inl (nI k)] h (fun r h' => r = .inl (some (.inl (nI (wT k).length))) ∧ zAp (zput (zput (zput (zput h 27 0 0) 27 1 0) 27 3 0) 27 10 0) 0 (wT k) h') := by
  suffices main : ∀ K : zR → zH → Prop, (∀ h', zAp (zput (zput (zput (zput h 27 0 0) 27 1 0) 27 3 0) 27 10 0) 0 (wT k) h' → K (.inl (some (.inl (nI (wT k).length)))) h') → zSP (d + 3) 0 0 mM_builtin [.inr (.inr 27), .inl (nI k)] h K from main _ (fun h' q => ⟨rfl, q⟩)
  intro K hK
  have hm : (zput (zput (zput (zput h 27 0 0) 27 1 0) 27 3 0) 27 10 0).1 27 1 = nI 0 := by simp [zp1]; rfl
  have fin : ∀ h', zAp (zput (zput (zput (zput h 27 0 0) 27 1 0) 27 3 0) 27 10 0) 0 (wT k) h' → zMC false (d + 3) 0 0 0 0 mM_builtin K 52 [some (.inr (.inr 27)), some (.inl (nI k))] [] h' := by
    intro h' q
    refine r_aload_n (zdk oM_builtin 28 rfl) rfl rfl ?_
    refine r_geti (kf := 1) (zdk oM_builtin 29 rfl) rfl rfl (by decide) lF_M_82 rfl ?_
    rw [q.1, Nat.zero_add]
    refine r_iret (zdk oM_builtin 30 rfl) rfl ?_
    exact hK h' q
  refine zmet (by decide +kernel) (Nat.le_of_ble_eq_true rfl) ?_
  refine r_aload_n (zdk oM_builtin 0 rfl) rfl rfl ?_
  refine r_iload_n (zdk oM_builtin 1 rfl) rfl rfl ?_
  refine r_iconst (v := 0) (zdk oM_builtin 2 rfl) (by decide) ?_
  refine r_iconst (v := 2) (zdk oM_builtin 3 rfl) (by decide) ?_
  refine r_callS3i (M' := mM_within) (zdk oM_builtin 4 rfl) lM_M_100 sM_within (Nat.le_of_ble_eq_true rfl) rfl (spM_within (d + 2) h (nI k) 0 2) ?_
  rw [zw_t (v := nI k) (lo := 0) (hi := 2) ⟨zm1p (by omega), Int32.not_lt.mpr (nI_lel (b := 2) hk (by decide))⟩]
  refine r_iconst (v := 1) (zdk oM_builtin 5 rfl) (by decide) ?_
  refine r_callV2i (M' := mM_goes) (zdk oM_builtin 6 rfl) lM_M_85 vM_goes rfl rfl (Nat.le_of_ble_eq_true rfl) rfl (spM_goes (d + 2) h true true) ?_
  refine r_if_ne (tgt := 16) (zdk oM_builtin 7 rfl) (by decide) (fun _ => ?_) (fun q9 => absurd q9 ((fBo_t)))
  refine r_aload_n (zdk oM_builtin 10 rfl) rfl rfl ?_
  refine r_iconst (v := 0) (zdk oM_builtin 11 rfl) (by decide) ?_
  refine r_puti (kf := 1) (zdk oM_builtin 12 rfl) rfl rfl (by decide) lF_M_82 rfl rfl (by decide +kernel) (Or.inl rfl) ?_
  refine r_aload_n (zdk oM_builtin 13 rfl) rfl rfl ?_
  refine r_callV0v (M' := mM_changed) (zdk oM_builtin 14 rfl) lM_M_89 vM_changed rfl rfl (Nat.le_of_ble_eq_true rfl) rfl (spM_changed (d + 2) _) ?_
  refine r_iload_n (zdk oM_builtin 15 rfl) rfl rfl ?_
  have hk' : k = 0 ∨ k = 1 ∨ k = 2 := by omega
  rcases hk' with rfl | rfl | rfl
  · refine r_if_ne (tgt := 36) (zdk oM_builtin 16 rfl) (by decide) (fun q9 => absurd ((rfl)) q9) (fun _ => ?_)
    refine r_aload_n (zdk oM_builtin 17 rfl) rfl rfl ?_
    refine r_callV0 (M' := mM_oneThird) (zdk oM_builtin 18 rfl) lM_M_104 vM_oneThird rfl rfl (Nat.le_of_ble_eq_true rfl) rfl (spM_oneThird d _ hm) ?_
    intro r h' q
    obtain ⟨e, q⟩ := q
    cases e
    refine r_goto (tgt := 52) (zdk oM_builtin 19 rfl) (by decide) ?_
    exact fin h' q
  · refine r_if_ne (tgt := 36) (zdk oM_builtin 16 rfl) (by decide) (fun _ => ?_) (fun q9 => absurd q9 ((by decide)))
    refine r_iload_n (zdk oM_builtin 20 rfl) rfl rfl ?_
    refine r_iconst (v := 1) (zdk oM_builtin 21 rfl) (by decide) ?_
    refine r_icmp_ne (tgt := 48) (zdk oM_builtin 22 rfl) (by decide) (fun q9 => absurd ((rfl)) q9) (fun _ => ?_)
    refine r_aload_n (zdk oM_builtin 23 rfl) rfl rfl ?_
    refine r_callV0 (M' := mM_voting) (zdk oM_builtin 24 rfl) lM_M_107 vM_voting rfl rfl (Nat.le_of_ble_eq_true rfl) rfl (spM_voting d _ hm) ?_
    intro r h' q
    obtain ⟨e, q⟩ := q
    cases e
    refine r_goto (tgt := 52) (zdk oM_builtin 25 rfl) (by decide) ?_
    exact fin h' q
  · refine r_if_ne (tgt := 36) (zdk oM_builtin 16 rfl) (by decide) (fun _ => ?_) (fun q9 => absurd q9 ((by decide)))
    refine r_iload_n (zdk oM_builtin 20 rfl) rfl rfl ?_
    refine r_iconst (v := 1) (zdk oM_builtin 21 rfl) (by decide) ?_
    refine r_icmp_ne (tgt := 48) (zdk oM_builtin 22 rfl) (by decide) (fun _ => ?_) (fun q9 => absurd q9 ((by decide)))
    refine r_aload_n (zdk oM_builtin 26 rfl) rfl rfl ?_
    refine r_callV0 (M' := mM_leading) (zdk oM_builtin 27 rfl) lM_M_110 vM_leading rfl rfl (Nat.le_of_ble_eq_true rfl) rfl (spM_leading d _ hm) ?_
    intro r h' q
    obtain ⟨e, q⟩ := q
    cases e
    exact fin h' q
theorem spM_check (d : Nat) (h : zH) (n : Nat) (hm : h.1 27 1 = nI n) (hn : n ≤ 400) : zSP (d + 4) 0 0 mM_check [.inr (.inr 27)] h (fun r h' => ∃ h1, zMFE (zput (zput (zput h 27 0 0) 27 3 0) 27 10 0) n r h1 ∧ r = .inl (some (.inl (fErr (h.1 28) n + 1))) ∧ h' = zput h1 27 3 (fBo (decide (fErr (h.1 28) n + 1 = 0)))) := by
  have hm' : (zput (zput (zput h 27 0 0) 27 3 0) 27 10 0).1 27 1 = nI n := by simp [zp1, hm]
  have hw : (zput (zput (zput h 27 0 0) 27 3 0) 27 10 0).1 28 = h.1 28 := by funext j; simp [zp1]
  refine zmet (by decide +kernel) (Nat.le_of_ble_eq_true rfl) ?_
  refine r_aload_n (zdk oM_check 0 rfl) rfl rfl ?_
  refine r_iconst (v := 0) (zdk oM_check 1 rfl) (by decide) ?_
  refine r_puti (kf := 0) (zdk oM_check 2 rfl) rfl rfl (by decide) lF_M_72 rfl rfl (by decide +kernel) (Or.inl rfl) ?_
  refine r_aload_n (zdk oM_check 3 rfl) rfl rfl ?_
  refine r_callV0v (M' := mM_changed) (zdk oM_check 4 rfl) lM_M_89 vM_changed rfl rfl (Nat.le_of_ble_eq_true rfl) rfl (spM_changed (d + 3) _) ?_
  refine r_aload_n (zdk oM_check 5 rfl) rfl rfl ?_
  refine r_callV0 (M' := mM_error) (zdk oM_check 6 rfl) lM_M_127 vM_error rfl rfl (Nat.le_of_ble_eq_true rfl) rfl (spM_error d _ n hm' hn) ?_
  intro r h1 q
  have q0 := q
  obtain ⟨e, -⟩ := q
  rw [hw] at e
  cases e
  by_cases hc : fErr (h.1 28) n + 1 = 0
  · refine r_istore_n (zdk oM_check 7 rfl) rfl (Nat.le_of_ble_eq_true rfl) rfl ?_
    refine r_aload_n (zdk oM_check 8 rfl) rfl rfl ?_
    refine r_iload_n (zdk oM_check 9 rfl) rfl rfl ?_
    refine r_if_ne (tgt := 23) (zdk oM_check 10 rfl) (by decide) (fun q9 => absurd ((hc)) q9) (fun _ => ?_)
    refine r_iconst (v := 1) (zdk oM_check 11 rfl) (by decide) ?_
    refine r_goto (tgt := 24) (zdk oM_check 12 rfl) (by decide) ?_
    refine r_puti (kf := 3) (zdk oM_check 14 rfl) rfl rfl (by decide) lF_M_75 rfl rfl (by decide +kernel) (Or.inr (Or.inr rfl)) ?_
    refine r_iload_n (zdk oM_check 15 rfl) rfl rfl ?_
    refine r_iret (zdk oM_check 16 rfl) rfl ?_
    exact ⟨h1, q0, rfl, by rw [decide_eq_true hc]; rfl⟩
  · refine r_istore_n (zdk oM_check 7 rfl) rfl (Nat.le_of_ble_eq_true rfl) rfl ?_
    refine r_aload_n (zdk oM_check 8 rfl) rfl rfl ?_
    refine r_iload_n (zdk oM_check 9 rfl) rfl rfl ?_
    refine r_if_ne (tgt := 23) (zdk oM_check 10 rfl) (by decide) (fun _ => ?_) (fun q9 => absurd q9 ((hc)))
    refine r_iconst (v := 0) (zdk oM_check 13 rfl) (by decide) ?_
    refine r_puti (kf := 3) (zdk oM_check 14 rfl) rfl rfl (by decide) lF_M_75 rfl rfl (by decide +kernel) (Or.inr (Or.inl rfl)) ?_
    refine r_iload_n (zdk oM_check 15 rfl) rfl rfl ?_
    refine r_iret (zdk oM_check 16 rfl) rfl ?_
    exact ⟨h1, q0, rfl, by rw [decide_eq_false hc]; rfl⟩
theorem spM_input_t (d : Nat) (h : zH) (p v : Int32) (a b : Bool) (ea : decide (¬ p < 0 ∧ ¬ 6 < p) = a) (eb : decide (¬ v < 0 ∧ ¬ 15 < v) = b) (hab : (a && b) = false) : zSP (d + 1) 0 0 mM_input [.inr (.inr 27), .inl p, .inl v] h (zRef h (if a = false then 1 else 2)) := by
  refine zmet (by decide +kernel) (Nat.le_of_ble_eq_true rfl) ?_
  refine r_aload_n (zdk oM_input 0 rfl) rfl rfl ?_
  refine r_iload_n (zdk oM_input 1 rfl) rfl rfl ?_
  refine r_iconst (v := 0) (zdk oM_input 2 rfl) (by decide) ?_
  refine r_bipush (v := 6) (zdk oM_input 3 rfl) (by decide) ?_
  refine r_callS3i (M' := mM_within) (zdk oM_input 4 rfl) lM_M_100 sM_within (Nat.le_of_ble_eq_true rfl) rfl (spM_within d h p 0 6) ?_
  refine r_iload_n (zdk oM_input 5 rfl) rfl rfl ?_
  refine r_iconst (v := 0) (zdk oM_input 6 rfl) (by decide) ?_
  refine r_bipush (v := 15) (zdk oM_input 7 rfl) (by decide) ?_
  refine r_callS3i (M' := mM_within) (zdk oM_input 8 rfl) lM_M_100 sM_within (Nat.le_of_ble_eq_true rfl) rfl (spM_within d h v 0 15) ?_
  rw [ea, eb]
  refine r_callV2i (M' := mM_goes) (zdk oM_input 9 rfl) lM_M_85 vM_goes rfl rfl (Nat.le_of_ble_eq_true rfl) rfl (spM_goes d h a b) ?_
  rw [hab]
  refine r_if_ne (tgt := 23) (zdk oM_input 10 rfl) (by decide) (fun q9 => absurd ((rfl)) q9) (fun _ => ?_)
  refine r_iconst (v := 0) (zdk oM_input 11 rfl) (by decide) ?_
  refine r_iret (zdk oM_input 12 rfl) rfl ?_
  refine zIh rfl ?_
  cases a with
  | false => rfl
  | true =>
    cases b with
    | false => rfl
    | true => exact absurd hab (by decide)
theorem spM_input (d : Nat) (h : zH) (p : Nat) (v : Int32) (hp : p < 7) (hv : ¬ v < 0 ∧ ¬ 15 < v) : zSP (d + 1) 0 0 mM_input [.inr (.inr 27), .inl (nI p), .inl v] h (zI (h.1 32 p) (zput (zput h 27 0 0) 32 p v)) := by
  have ep : (nI p).toNatClampNeg = p := nI_clamp (by omega)
  refine zmet (by decide +kernel) (Nat.le_of_ble_eq_true rfl) ?_
  refine r_aload_n (zdk oM_input 0 rfl) rfl rfl ?_
  refine r_iload_n (zdk oM_input 1 rfl) rfl rfl ?_
  refine r_iconst (v := 0) (zdk oM_input 2 rfl) (by decide) ?_
  refine r_bipush (v := 6) (zdk oM_input 3 rfl) (by decide) ?_
  refine r_callS3i (M' := mM_within) (zdk oM_input 4 rfl) lM_M_100 sM_within (Nat.le_of_ble_eq_true rfl) rfl (spM_within d h (nI p) 0 6) ?_
  rw [zw_t (v := nI p) (lo := 0) (hi := 6) ⟨zm1p (by omega), Int32.not_lt.mpr (nI_lel (b := 6) (by omega) (by decide))⟩]
  refine r_iload_n (zdk oM_input 5 rfl) rfl rfl ?_
  refine r_iconst (v := 0) (zdk oM_input 6 rfl) (by decide) ?_
  refine r_bipush (v := 15) (zdk oM_input 7 rfl) (by decide) ?_
  refine r_callS3i (M' := mM_within) (zdk oM_input 8 rfl) lM_M_100 sM_within (Nat.le_of_ble_eq_true rfl) rfl (spM_within d h v 0 15) ?_
  rw [zw_t hv]
  refine r_callV2i (M' := mM_goes) (zdk oM_input 9 rfl) lM_M_85 vM_goes rfl rfl (Nat.le_of_ble_eq_true rfl) rfl (spM_goes d h true true) ?_
  refine r_if_ne (tgt := 23) (zdk oM_input 10 rfl) (by decide) (fun _ => ?_) (fun q9 => absurd q9 ((fBo_t)))
  refine r_aload_n (zdk oM_input 13 rfl) rfl rfl ?_
  refine r_getr (kf := 9) (zdk oM_input 14 rfl) rfl rfl (by decide) lF_M_22 rfl ?_
  refine r_iload_n (zdk oM_input 15 rfl) rfl rfl ?_
  refine r_iald (zdk oM_input 16 rfl) rfl (vp_in_nI (n := p) (by omega) (by decide)) ?_
  refine r_istore_n (zdk oM_input 17 rfl) rfl (Nat.le_of_ble_eq_true rfl) rfl ?_
  refine r_aload_n (zdk oM_input 18 rfl) rfl rfl ?_
  refine r_getr (kf := 9) (zdk oM_input 19 rfl) rfl rfl (by decide) lF_M_22 rfl ?_
  refine r_iload_n (zdk oM_input 20 rfl) rfl rfl ?_
  refine r_iload_n (zdk oM_input 21 rfl) rfl rfl ?_
  refine r_iast (zdk oM_input 22 rfl) rfl (vp_in_nI (n := p) (by omega) (by decide)) ?_
  refine r_iload_n (zdk oM_input 23 rfl) rfl rfl ?_
  refine r_iret (zdk oM_input 24 rfl) rfl ?_
  exact zIh (by rw [ep, zp1, if_neg (by omega)]) (by rw [ep]; rfl)
theorem spM_hear_t1 (d : Nat) (h : zH) (p s : Int32) (hp : decide (¬ p < 0 ∧ ¬ h.1 27 10 ≤ p) = false) : zSP (d + 1) 0 0 mM_hear [.inr (.inr 27), .inl p, .inl s] h (zRef h 1) := by
  have fin : ∀ b, zMC false (d + 1) 0 0 0 0 mM_hear (zRef h 1) 24 [some (.inr (.inr 27)), some (.inl p), some (.inl s), none] [.inl (fBo b), .inl (fBo false), .inr (.inr 27)] h := by
    intro b
    refine r_callV2i (M' := mM_goes) (zdk oM_hear 14 rfl) lM_M_85 vM_goes rfl rfl (Nat.le_of_ble_eq_true rfl) rfl (spM_goes d h false b) ?_
    refine r_if_ne (tgt := 32) (zdk oM_hear 15 rfl) (by decide) (fun q9 => absurd ((rfl)) q9) (fun _ => ?_)
    refine r_iconst (v := 0) (zdk oM_hear 16 rfl) (by decide) ?_
    refine r_iret (zdk oM_hear 17 rfl) rfl ?_
    exact zIi rfl
  refine zmet (by decide +kernel) (Nat.le_of_ble_eq_true rfl) ?_
  refine r_aload_n (zdk oM_hear 0 rfl) rfl rfl ?_
  refine r_aload_n (zdk oM_hear 1 rfl) rfl rfl ?_
  refine r_iload_n (zdk oM_hear 2 rfl) rfl rfl ?_
  refine r_callV1i (M' := mM_isProcess) (zdk oM_hear 3 rfl) lM_M_176 vM_isProcess rfl rfl (Nat.le_of_ble_eq_true rfl) rfl (spM_isProcess d h p) ?_
  rw [hp]
  refine r_iload_n (zdk oM_hear 4 rfl) rfl rfl ?_
  refine r_if_lt (tgt := 23) (zdk oM_hear 5 rfl) (by decide) (fun h1 => ?_) (fun h1 => ?_)
  · refine r_iconst (v := 0) (zdk oM_hear 13 rfl) (by decide) ?_
    exact fin false
  · refine r_iload_n (zdk oM_hear 6 rfl) rfl rfl ?_
    refine r_aload_n (zdk oM_hear 7 rfl) rfl rfl ?_
    refine r_geti (kf := 10) (zdk oM_hear 8 rfl) rfl rfl (by decide) lF_M_79 rfl ?_
    refine r_ishr (zdk oM_hear 9 rfl) ?_
    refine r_if_ne (tgt := 23) (zdk oM_hear 10 rfl) (by decide) (fun h2 => ?_) (fun h2 => ?_)
    · refine r_iconst (v := 0) (zdk oM_hear 13 rfl) (by decide) ?_
      exact fin false
    · refine r_iconst (v := 1) (zdk oM_hear 11 rfl) (by decide) ?_
      refine r_goto (tgt := 24) (zdk oM_hear 12 rfl) (by decide) ?_
      exact fin true
theorem spM_hear_t2 (d : Nat) (h : zH) (p s : Int32) (hp : decide (¬ p < 0 ∧ ¬ h.1 27 10 ≤ p) = true) (hs : s < 0 ∨ ¬ s >>> (h.1 27 10 &&& 31) = 0) : zSP (d + 1) 0 0 mM_hear [.inr (.inr 27), .inl p, .inl s] h (zRef h 2) := by
  have fin : zMC false (d + 1) 0 0 0 0 mM_hear (zRef h 2) 23 [some (.inr (.inr 27)), some (.inl p), some (.inl s), none] [.inl (fBo true), .inr (.inr 27)] h := by
    refine r_iconst (v := 0) (zdk oM_hear 13 rfl) (by decide) ?_
    refine r_callV2i (M' := mM_goes) (zdk oM_hear 14 rfl) lM_M_85 vM_goes rfl rfl (Nat.le_of_ble_eq_true rfl) rfl (spM_goes d h true false) ?_
    refine r_if_ne (tgt := 32) (zdk oM_hear 15 rfl) (by decide) (fun q9 => absurd ((rfl)) q9) (fun _ => ?_)
    refine r_iconst (v := 0) (zdk oM_hear 16 rfl) (by decide) ?_
    refine r_iret (zdk oM_hear 17 rfl) rfl ?_
    exact zIi rfl
  refine zmet (by decide +kernel) (Nat.le_of_ble_eq_true rfl) ?_
  refine r_aload_n (zdk oM_hear 0 rfl) rfl rfl ?_
  refine r_aload_n (zdk oM_hear 1 rfl) rfl rfl ?_
  refine r_iload_n (zdk oM_hear 2 rfl) rfl rfl ?_
  refine r_callV1i (M' := mM_isProcess) (zdk oM_hear 3 rfl) lM_M_176 vM_isProcess rfl rfl (Nat.le_of_ble_eq_true rfl) rfl (spM_isProcess d h p) ?_
  rw [hp]
  refine r_iload_n (zdk oM_hear 4 rfl) rfl rfl ?_
  refine r_if_lt (tgt := 23) (zdk oM_hear 5 rfl) (by decide) (fun h1 => ?_) (fun h1 => ?_)
  · exact fin
  · refine r_iload_n (zdk oM_hear 6 rfl) rfl rfl ?_
    refine r_aload_n (zdk oM_hear 7 rfl) rfl rfl ?_
    refine r_geti (kf := 10) (zdk oM_hear 8 rfl) rfl rfl (by decide) lF_M_79 rfl ?_
    refine r_ishr (zdk oM_hear 9 rfl) ?_
    refine r_if_ne (tgt := 23) (zdk oM_hear 10 rfl) (by decide) (fun _ => ?_) (fun q9 => absurd q9 ((hs.resolve_left h1)))
    exact fin
theorem spM_hear (d : Nat) (h : zH) (k : Nat) (s : Int32) (hk : k < 7) (hp : decide (¬ nI k < 0 ∧ ¬ h.1 27 10 ≤ nI k) = true) (h1 : ¬ s < 0) (h2 : s >>> (h.1 27 10 &&& 31) = 0) : zSP (d + 1) 0 0 mM_hear [.inr (.inr 27), .inl (nI k), .inl s] h (zI (h.1 33 k) (zput (zput h 27 0 0) 33 k s)) := by
  have ek : (nI k).toNatClampNeg = k := nI_clamp (by omega)
  refine zmet (by decide +kernel) (Nat.le_of_ble_eq_true rfl) ?_
  refine r_aload_n (zdk oM_hear 0 rfl) rfl rfl ?_
  refine r_aload_n (zdk oM_hear 1 rfl) rfl rfl ?_
  refine r_iload_n (zdk oM_hear 2 rfl) rfl rfl ?_
  refine r_callV1i (M' := mM_isProcess) (zdk oM_hear 3 rfl) lM_M_176 vM_isProcess rfl rfl (Nat.le_of_ble_eq_true rfl) rfl (spM_isProcess d h (nI k)) ?_
  rw [hp]
  refine r_iload_n (zdk oM_hear 4 rfl) rfl rfl ?_
  refine r_if_lt (tgt := 23) (zdk oM_hear 5 rfl) (by decide) (fun q9 => absurd q9 ((h1))) (fun _ => ?_)
  refine r_iload_n (zdk oM_hear 6 rfl) rfl rfl ?_
  refine r_aload_n (zdk oM_hear 7 rfl) rfl rfl ?_
  refine r_geti (kf := 10) (zdk oM_hear 8 rfl) rfl rfl (by decide) lF_M_79 rfl ?_
  refine r_ishr (zdk oM_hear 9 rfl) ?_
  refine r_if_ne (tgt := 23) (zdk oM_hear 10 rfl) (by decide) (fun q9 => absurd ((h2)) q9) (fun _ => ?_)
  refine r_iconst (v := 1) (zdk oM_hear 11 rfl) (by decide) ?_
  refine r_goto (tgt := 24) (zdk oM_hear 12 rfl) (by decide) ?_
  refine r_callV2i (M' := mM_goes) (zdk oM_hear 14 rfl) lM_M_85 vM_goes rfl rfl (Nat.le_of_ble_eq_true rfl) rfl (spM_goes d h true true) ?_
  refine r_if_ne (tgt := 32) (zdk oM_hear 15 rfl) (by decide) (fun _ => ?_) (fun q9 => absurd q9 ((fBo_t)))
  refine r_aload_n (zdk oM_hear 18 rfl) rfl rfl ?_
  refine r_getr (kf := 12) (zdk oM_hear 19 rfl) rfl rfl (by decide) lF_M_25 rfl ?_
  refine r_iload_n (zdk oM_hear 20 rfl) rfl rfl ?_
  refine r_iald (zdk oM_hear 21 rfl) rfl (vp_in_nI (n := k) (by omega) (by decide)) ?_
  refine r_istore_n (zdk oM_hear 22 rfl) rfl (Nat.le_of_ble_eq_true rfl) rfl ?_
  refine r_aload_n (zdk oM_hear 23 rfl) rfl rfl ?_
  refine r_getr (kf := 12) (zdk oM_hear 24 rfl) rfl rfl (by decide) lF_M_25 rfl ?_
  refine r_iload_n (zdk oM_hear 25 rfl) rfl rfl ?_
  refine r_iload_n (zdk oM_hear 26 rfl) rfl rfl ?_
  refine r_iast (zdk oM_hear 27 rfl) rfl (vp_in_nI (n := k) (by omega) (by decide)) ?_
  refine r_iload_n (zdk oM_hear 28 rfl) rfl rfl ?_
  refine r_iret (zdk oM_hear 29 rfl) rfl ?_
  exact zIh (by rw [ek, zp1, if_neg (by omega)]) (by rw [ek]; rfl)
