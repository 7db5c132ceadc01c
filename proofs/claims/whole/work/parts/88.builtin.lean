/-! the class's programs that are there -/
theorem ztk_len {q : Nat} (hq : q = 101 ∨ q = 102 ∨ q = 103) : (ztk q).length ≤ 100 := by
  rcases hq with rfl | rfl | rfl <;> decide
theorem spP_replaceBy (d : Nat) (h : zH) (q : Nat) (hq : q = 101 ∨ q = 102 ∨ q = 103) : zSP d 0 0 mP_replaceBy [.inr (.inr 1), .inr (.inr q)] h (zU (zput (zcpT (zput h 1 3 (nI (ztk q).length)) (fun j => (ztk q).getD j 0) 2 (ztk q).length) 1 4 0)) := by
  have hl := ztk_len hq
  have ecl : (nI (ztk q).length).toNatClampNeg = (ztk q).length := nI_clamp (by omega)
  refine zmet (by decide +kernel) (Nat.le_of_ble_eq_true rfl) ?_
  refine r_aload_n (zdk oP_replaceBy 0 rfl) rfl rfl ?_
  refine r_aload_n (zdk oP_replaceBy 1 rfl) rfl rfl ?_
  refine r_slen (v := nI (ztk q).length) hq (zdk oP_replaceBy 2 rfl) rfl ?_
  refine r_puti (kf := 3) (zdk oP_replaceBy 3 rfl) rfl rfl (by decide) lF_P_21 rfl rfl (by decide +kernel) (Or.inl rfl) ?_
  refine r_aload_n (zdk oP_replaceBy 4 rfl) rfl rfl ?_
  refine r_iconst (v := 0) (zdk oP_replaceBy 5 rfl) (by decide) ?_
  refine r_aload_n (zdk oP_replaceBy 6 rfl) rfl rfl ?_
  refine r_getr (kf := 0) (zdk oP_replaceBy 7 rfl) rfl rfl (by decide) lF_P_9 rfl ?_
  refine r_iconst (v := 0) (zdk oP_replaceBy 8 rfl) (by decide) ?_
  refine r_aload_n (zdk oP_replaceBy 9 rfl) rfl rfl ?_
  refine r_geti (kf := 3) (zdk oP_replaceBy 10 rfl) rfl rfl (by decide) lF_P_21 rfl ?_
  rw [show (zput h 1 3 (nI (ztk q).length)).1 1 3 = nI (ztk q).length by rw [zp1, if_pos ⟨rfl, rfl⟩]]
  refine r_scopy (n1 := 400) (zdk oP_replaceBy 11 rfl) lM_P_41 lX_cpyN lX_cpyS lX_sys hq rfl (zm1p (by omega)) (by rw [ecl]; exact Nat.le_refl _) (by rw [ecl]; omega) (Nat.le_of_ble_eq_true rfl) rfl ?_
  rw [ecl]
  refine r_aload_n (zdk oP_replaceBy 12 rfl) rfl rfl ?_
  refine r_iconst (v := 0) (zdk oP_replaceBy 13 rfl) (by decide) ?_
  refine r_puti (kf := 4) (zdk oP_replaceBy 14 rfl) rfl rfl (by decide) lF_P_25 rfl rfl (by decide +kernel) (Or.inr (Or.inl rfl)) ?_
  refine r_vret (zdk oP_replaceBy 15 rfl) rfl ?_
  exact zUi rfl
def zBlt (h : zH) (k : Nat) : zH := zput (zput (zput (zcpT (zput h 1 3 (nI (ztk (101 + k)).length)) (fun j => (ztk (101 + k)).getD j 0) 2 (ztk (101 + k)).length) 1 4 0) 9 2 0) 6 2 0
theorem zBlt_3 {h : zH} {k : Nat} : (zBlt h k).1 1 3 = nI (ztk (101 + k)).length := by
  unfold zBlt
  simp [zp1, zcpT]
theorem spL_builtin (d : Nat) (h : zH) (k : Nat) (hk : k ≤ 2) : zSP (d + 1) 0 0 mL_builtin [.inr (.inr 0), .inl (nI k)] h (zI (nI (ztk (101 + k)).length) (zBlt h k)) := by
  have hk' : k = 0 ∨ k = 1 ∨ k = 2 := by omega
  refine zmet (by decide +kernel) (Nat.le_of_ble_eq_true rfl) ?_
  refine r_iload_n (zdk oL_builtin 0 rfl) rfl rfl ?_
  refine r_if_lt (tgt := 9) (zdk oL_builtin 1 rfl) (by decide) (fun q9 => absurd q9 ((zm1p (by omega)))) (fun _ => ?_)
  refine r_iload_n (zdk oL_builtin 2 rfl) rfl rfl ?_
  refine r_iconst (v := 2) (zdk oL_builtin 3 rfl) (by decide) ?_
  refine r_icmp_le (tgt := 19) (zdk oL_builtin 4 rfl) (by decide) (fun _ => ?_) (fun q9 => absurd ((nI_lel (b := 2) hk (by decide))) q9)
  refine r_aload_n (zdk oL_builtin 10 rfl) rfl rfl ?_
  refine r_getr (kf := 0) (zdk oL_builtin 11 rfl) rfl rfl (by decide) lF_L_10 rfl ?_
  refine r_iload_n (zdk oL_builtin 12 rfl) rfl rfl ?_
  rcases hk' with rfl | rfl | rfl
  · refine r_if_ne (tgt := 33) (zdk oL_builtin 13 rfl) (by decide) (fun q9 => absurd ((rfl)) q9) (fun _ => ?_)
    refine r_gets1 (zdk oL_builtin 14 rfl) lF_L_59 ?_
    refine r_goto (tgt := 47) (zdk oL_builtin 15 rfl) (by decide) ?_
    refine r_callV1v (M' := mP_replaceBy) (zdk oL_builtin 22 rfl) lM_L_68 vP_replaceBy rfl rfl (Nat.le_of_ble_eq_true rfl) rfl (spP_replaceBy d h 101 (by omega)) ?_
    refine r_aload_n (zdk oL_builtin 23 rfl) rfl rfl ?_
    refine r_getr (kf := 2) (zdk oL_builtin 24 rfl) rfl rfl (by decide) lF_L_25 rfl ?_
    refine r_callV0v (M' := mR_end) (zdk oL_builtin 25 rfl) lM_L_51 vR_end rfl rfl (Nat.le_of_ble_eq_true rfl) rfl (spR_end d _) ?_
    refine r_aload_n (zdk oL_builtin 26 rfl) rfl rfl ?_
    refine r_getr (kf := 0) (zdk oL_builtin 27 rfl) rfl rfl (by decide) lF_L_10 rfl ?_
    refine r_geti (kf := 3) (zdk oL_builtin 28 rfl) rfl rfl (by decide) lF_L_36 rfl ?_
    refine r_iret (zdk oL_builtin 29 rfl) rfl ?_
    exact zIh (zBlt_3 (h := h) (k := 0)) rfl
  · refine r_if_ne (tgt := 33) (zdk oL_builtin 13 rfl) (by decide) (fun _ => ?_) (fun q9 => absurd q9 ((by decide)))
    refine r_iload_n (zdk oL_builtin 16 rfl) rfl rfl ?_
    refine r_iconst (v := 1) (zdk oL_builtin 17 rfl) (by decide) ?_
    refine r_icmp_ne (tgt := 44) (zdk oL_builtin 18 rfl) (by decide) (fun q9 => absurd ((rfl)) q9) (fun _ => ?_)
    refine r_gets2 (zdk oL_builtin 19 rfl) lF_L_62 ?_
    refine r_goto (tgt := 47) (zdk oL_builtin 20 rfl) (by decide) ?_
    refine r_callV1v (M' := mP_replaceBy) (zdk oL_builtin 22 rfl) lM_L_68 vP_replaceBy rfl rfl (Nat.le_of_ble_eq_true rfl) rfl (spP_replaceBy d h 102 (by omega)) ?_
    refine r_aload_n (zdk oL_builtin 23 rfl) rfl rfl ?_
    refine r_getr (kf := 2) (zdk oL_builtin 24 rfl) rfl rfl (by decide) lF_L_25 rfl ?_
    refine r_callV0v (M' := mR_end) (zdk oL_builtin 25 rfl) lM_L_51 vR_end rfl rfl (Nat.le_of_ble_eq_true rfl) rfl (spR_end d _) ?_
    refine r_aload_n (zdk oL_builtin 26 rfl) rfl rfl ?_
    refine r_getr (kf := 0) (zdk oL_builtin 27 rfl) rfl rfl (by decide) lF_L_10 rfl ?_
    refine r_geti (kf := 3) (zdk oL_builtin 28 rfl) rfl rfl (by decide) lF_L_36 rfl ?_
    refine r_iret (zdk oL_builtin 29 rfl) rfl ?_
    exact zIh (zBlt_3 (h := h) (k := 1)) rfl
  · refine r_if_ne (tgt := 33) (zdk oL_builtin 13 rfl) (by decide) (fun _ => ?_) (fun q9 => absurd q9 ((by decide)))
    refine r_iload_n (zdk oL_builtin 16 rfl) rfl rfl ?_
    refine r_iconst (v := 1) (zdk oL_builtin 17 rfl) (by decide) ?_
    refine r_icmp_ne (tgt := 44) (zdk oL_builtin 18 rfl) (by decide) (fun _ => ?_) (fun q9 => absurd q9 ((by decide)))
    refine r_gets3 (zdk oL_builtin 21 rfl) lF_L_65 ?_
    refine r_callV1v (M' := mP_replaceBy) (zdk oL_builtin 22 rfl) lM_L_68 vP_replaceBy rfl rfl (Nat.le_of_ble_eq_true rfl) rfl (spP_replaceBy d h 103 (by omega)) ?_
    refine r_aload_n (zdk oL_builtin 23 rfl) rfl rfl ?_
    refine r_getr (kf := 2) (zdk oL_builtin 24 rfl) rfl rfl (by decide) lF_L_25 rfl ?_
    refine r_callV0v (M' := mR_end) (zdk oL_builtin 25 rfl) lM_L_51 vR_end rfl rfl (Nat.le_of_ble_eq_true rfl) rfl (spR_end d _) ?_
    refine r_aload_n (zdk oL_builtin 26 rfl) rfl rfl ?_
    refine r_getr (kf := 0) (zdk oL_builtin 27 rfl) rfl rfl (by decide) lF_L_10 rfl ?_
    refine r_geti (kf := 3) (zdk oL_builtin 28 rfl) rfl rfl (by decide) lF_L_36 rfl ?_
    refine r_iret (zdk oL_builtin 29 rfl) rfl ?_
    exact zIh (zBlt_3 (h := h) (k := 2)) rfl
