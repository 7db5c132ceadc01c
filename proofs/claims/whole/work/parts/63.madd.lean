/-! a state is found -/
def zAdd (h : zH) (n : Nat) (c : Int64) (a b g : Int32) : zH := zput (zput (zput (zput (zputL h 39 n c) 40 n a) 41 n b) 42 n g) 27 21 (nI (n + 1))
def zHas (h : zH) (lo n : Nat) (c : Int64) : Prop := ∃ i, lo ≤ i ∧ i < n ∧ h.2 39 i = c
theorem spM_add (d : Nat) (h : zH) (lo n : Nat) (c : Int64) (a b g : Int32) (hf : h.1 27 21 = nI n) (hlo : lo ≤ n) (hn : n ≤ 200) :
    zSP d 0 0 mM_add [.inr (.inr 27), .inl (nI lo), .inr (.inl c), .inl a, .inl b, .inl g] h (fun r h' => (zHas h lo n c → zI (fBo true) h r h') ∧ (¬ zHas h lo n c → n = 200 → zI (fBo false) h r h') ∧ (¬ zHas h lo n c → n < 200 → zI (fBo true) (zAdd h n c a b g) r h')) := by
  suffices main : ∀ K : zR → zH → Prop, (zHas h lo n c → K (.inl (some (.inl (fBo true)))) h) → (¬ zHas h lo n c → n = 200 → K (.inl (some (.inl (fBo false)))) h) → (¬ zHas h lo n c → n < 200 → K (.inl (some (.inl (fBo true)))) (zAdd h n c a b g)) → zSP d 0 0 mM_add [.inr (.inr 27), .inl (nI lo), .inr (.inl c), .inl a, .inl b, .inl g] h K from
    main _ (fun q => ⟨fun _ => zIi rfl, fun q2 => absurd q q2, fun q2 => absurd q q2⟩) (fun q e => ⟨fun q2 => absurd q2 q, fun _ _ => zIi rfl, fun _ e2 => absurd e2 (by omega)⟩) (fun q e => ⟨fun q2 => absurd q2 q, fun _ e2 => absurd e2 (by omega), fun _ _ => zIi rfl⟩)
  intro K k1 k2 k3
  have loop : ∀ (m i : Nat), i + m = n → lo ≤ i → (∀ j, lo ≤ j → j < i → ¬ h.2 39 j = c) → zMC false d 0 0 0 0 mM_add K 3 [some (.inr (.inr 27)), some (.inl (nI lo)), some (.inr (.inl c)), none, some (.inl a), some (.inl b), some (.inl g), some (.inl (nI i))] [] h := by
    intro m
    induction m with
    | zero =>
      intro i hi hl hno
      have e : i = n := by omega
      subst e
      have hnot : ¬ zHas h lo i c := fun ⟨j, j1, j2, j3⟩ => hno j j1 j2 j3
      refine r_iload (zdk oM_add 2 rfl) rfl ?_
      refine r_aload_n (zdk oM_add 3 rfl) rfl rfl ?_
      refine r_geti (kf := 21) (zdk oM_add 4 rfl) rfl rfl (by decide) lF_M_185 rfl ?_
      rw [hf]
      refine r_icmp_ge (tgt := 32) (zdk oM_add 5 rfl) (by decide) (fun _ => ?_) (fun q9 => absurd ((Int32.le_refl (nI i))) q9)
      refine r_aload_n (zdk oM_add 17 rfl) rfl rfl ?_
      refine r_geti (kf := 21) (zdk oM_add 18 rfl) rfl rfl (by decide) lF_M_185 rfl ?_
      refine r_sipush (v := 200) (zdk oM_add 19 rfl) (by decide) ?_
      rw [hf]
      by_cases q : i = 200
      · refine r_icmp_ne (tgt := 44) (zdk oM_add 20 rfl) (by decide) (fun q9 => absurd ((show nI i = 200 by rw [q]; rfl)) q9) (fun _ => ?_)
        refine r_iconst (v := 0) (zdk oM_add 21 rfl) (by decide) ?_
        refine r_zret (zdk oM_add 22 rfl) rfl (Or.inl rfl) ?_
        exact k2 hnot q
      · refine r_icmp_ne (tgt := 44) (zdk oM_add 20 rfl) (by decide) (fun _ => ?_) (fun q9 => absurd q9 ((fun z => q (nI_inj (by omega) (by decide) (show nI i = nI 200 from z)))))
        have ei : (nI i).toNatClampNeg = i := nI_clamp (by omega)
        have g1 : (zputL h 39 i c).1 27 21 = nI i := by rw [zq1, hf]
        have g2 : (zput (zputL h 39 i c) 40 i a).1 27 21 = nI i := by rw [zp1, if_neg (by omega), g1]
        have g3 : (zput (zput (zputL h 39 i c) 40 i a) 41 i b).1 27 21 = nI i := by rw [zp1, if_neg (by omega), g2]
        have g4 : (zput (zput (zput (zputL h 39 i c) 40 i a) 41 i b) 42 i g).1 27 21 = nI i := by rw [zp1, if_neg (by omega), g3]
        refine r_aload_n (zdk oM_add 23 rfl) rfl rfl ?_
        refine r_getr (kf := 22) (zdk oM_add 24 rfl) rfl rfl (by decide) lF_M_43 rfl ?_
        refine r_aload_n (zdk oM_add 25 rfl) rfl rfl ?_
        refine r_geti (kf := 21) (zdk oM_add 26 rfl) rfl rfl (by decide) lF_M_185 rfl ?_
        rw [hf]
        refine r_lload_n (zdk oM_add 27 rfl) rfl rfl ?_
        refine r_last (zdk oM_add 28 rfl) rfl (vp_in_nI (n := i) (by omega) (by decide)) ?_
        refine r_aload_n (zdk oM_add 29 rfl) rfl rfl ?_
        refine r_getr (kf := 23) (zdk oM_add 30 rfl) rfl rfl (by decide) lF_M_47 rfl ?_
        refine r_aload_n (zdk oM_add 31 rfl) rfl rfl ?_
        refine r_geti (kf := 21) (zdk oM_add 32 rfl) rfl rfl (by decide) lF_M_185 rfl ?_
        rw [ei, g1]
        refine r_iload (zdk oM_add 33 rfl) rfl ?_
        refine r_iast (zdk oM_add 34 rfl) rfl (vp_in_nI (n := i) (by omega) (by decide)) ?_
        refine r_aload_n (zdk oM_add 35 rfl) rfl rfl ?_
        refine r_getr (kf := 24) (zdk oM_add 36 rfl) rfl rfl (by decide) lF_M_50 rfl ?_
        refine r_aload_n (zdk oM_add 37 rfl) rfl rfl ?_
        refine r_geti (kf := 21) (zdk oM_add 38 rfl) rfl rfl (by decide) lF_M_185 rfl ?_
        rw [ei, g2]
        refine r_iload (zdk oM_add 39 rfl) rfl ?_
        refine r_iast (zdk oM_add 40 rfl) rfl (vp_in_nI (n := i) (by omega) (by decide)) ?_
        refine r_aload_n (zdk oM_add 41 rfl) rfl rfl ?_
        refine r_getr (kf := 25) (zdk oM_add 42 rfl) rfl rfl (by decide) lF_M_53 rfl ?_
        refine r_aload_n (zdk oM_add 43 rfl) rfl rfl ?_
        refine r_geti (kf := 21) (zdk oM_add 44 rfl) rfl rfl (by decide) lF_M_185 rfl ?_
        rw [ei, g3]
        refine r_iload (zdk oM_add 45 rfl) rfl ?_
        refine r_iast (zdk oM_add 46 rfl) rfl (vp_in_nI (n := i) (by omega) (by decide)) ?_
        refine r_aload_n (zdk oM_add 47 rfl) rfl rfl ?_
        refine r_dup (zdk oM_add 48 rfl) rfl ?_
        refine r_geti (kf := 21) (zdk oM_add 49 rfl) rfl rfl (by decide) lF_M_185 rfl ?_
        rw [ei, g4]
        refine r_iconst (v := 1) (zdk oM_add 50 rfl) (by decide) ?_
        refine r_iadd (zdk oM_add 51 rfl) ?_
        refine r_tp (nI_1 i) ?_
        refine r_puti (kf := 21) (zdk oM_add 52 rfl) rfl rfl (by decide) lF_M_185 rfl rfl (by decide +kernel) (Or.inl rfl) ?_
        refine r_iconst (v := 1) (zdk oM_add 53 rfl) (by decide) ?_
        refine r_zret (zdk oM_add 54 rfl) rfl (Or.inr rfl) ?_
        exact k3 hnot (by omega)
    | succ m ih =>
      intro i hi hl hno
      have ei : (nI i).toNatClampNeg = i := nI_clamp (by omega)
      refine r_iload (zdk oM_add 2 rfl) rfl ?_
      refine r_aload_n (zdk oM_add 3 rfl) rfl rfl ?_
      refine r_geti (kf := 21) (zdk oM_add 4 rfl) rfl rfl (by decide) lF_M_185 rfl ?_
      rw [hf]
      refine r_icmp_ge (tgt := 32) (zdk oM_add 5 rfl) (by decide) (fun q9 => absurd q9 ((nI_ge (a := i) (b := n) (by omega) (by omega)))) (fun _ => ?_)
      refine r_aload_n (zdk oM_add 6 rfl) rfl rfl ?_
      refine r_getr (kf := 22) (zdk oM_add 7 rfl) rfl rfl (by decide) lF_M_43 rfl ?_
      refine r_iload (zdk oM_add 8 rfl) rfl ?_
      refine r_lald (zdk oM_add 9 rfl) rfl (vp_in_nI (n := i) (by omega) (by decide)) ?_
      refine r_lload_n (zdk oM_add 10 rfl) rfl rfl ?_
      refine r_lcmp (zdk oM_add 11 rfl) ?_
      rw [ei]
      by_cases q : h.2 39 i = c
      · refine r_if_ne (tgt := 26) (zdk oM_add 12 rfl) (by decide) (fun q9 => absurd (((lg0 _ _).mpr q)) q9) (fun _ => ?_)
        refine r_iconst (v := 1) (zdk oM_add 13 rfl) (by decide) ?_
        refine r_zret (zdk oM_add 14 rfl) rfl (Or.inr rfl) ?_
        exact k1 ⟨i, hl, by omega, q⟩
      · refine r_if_ne (tgt := 26) (zdk oM_add 12 rfl) (by decide) (fun _ => ?_) (fun q9 => absurd q9 ((fun z => q ((lg0 _ _).mp z))))
        first | refine r_iinc (zdk oM_add 15 rfl) rfl (zinc _) rfl ?_ | refine r_iinc (zdk oM_add 15 rfl) rfl rfl rfl ?_
        refine r_goto (tgt := 3) (zdk oM_add 16 rfl) (by decide) ?_
        refine ih (i + 1) (by omega) (by omega) (fun j j1 j2 => ?_)
        by_cases e : j = i
        · rw [e]; exact q
        · exact hno j j1 (by omega)
  refine zmet (by decide +kernel) (Nat.le_of_ble_eq_true rfl) ?_
  refine r_iload_n (zdk oM_add 0 rfl) rfl rfl ?_
  refine r_istore (zdk oM_add 1 rfl) (Nat.le_of_ble_eq_true rfl) rfl ?_
  exact loop (n - lo) lo (by omega) (Nat.le_refl _) (fun j j1 j2 => by omega)
