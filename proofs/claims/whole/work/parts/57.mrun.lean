/-! runs of the reference: hearing all, first states, keeping -/
theorem spM_hearAll (d : Nat) (h : zH) (np : Nat) (hp : h.1 27 10 = nI np) (h7 : np ≤ 7) : zSP d 0 0 mM_hearAll [.inr (.inr 27)] h (zU (zfill h 33 7 (nI (2 ^ np - 1)))) := by
  suffices main : ∀ K : zR → zH → Prop, K (.inl none) (zfill h 33 7 (nI (2 ^ np - 1))) → zSP d 0 0 mM_hearAll [.inr (.inr 27)] h K from main _ (zUi rfl)
  intro K hK
  have loop : ∀ k i, i + k = 7 → zMC false d 0 0 0 0 mM_hearAll K 2 [some (.inr (.inr 27)), some (.inl (nI i))] [] (zfill h 33 i (nI (2 ^ np - 1))) := by
    intro k
    induction k with
    | zero =>
      intro i hi
      have e : i = 7 := by omega
      subst e
      refine r_iload_n (zdk oM_hearAll 2 rfl) rfl rfl ?_
      refine r_bipush (v := 7) (zdk oM_hearAll 3 rfl) (by decide) ?_
      refine r_icmp_ge (tgt := 28) (zdk oM_hearAll 4 rfl) (by decide) (fun _ => ?_) (fun q9 => absurd ((Int32.le_refl (nI 7))) q9)
      refine r_vret (zdk oM_hearAll 17 rfl) rfl ?_
      exact hK
    | succ k ih =>
      intro i hi
      have ei : (nI i).toNatClampNeg = i := nI_clamp (by omega)
      refine r_iload_n (zdk oM_hearAll 2 rfl) rfl rfl ?_
      refine r_bipush (v := 7) (zdk oM_hearAll 3 rfl) (by decide) ?_
      refine r_icmp_ge (tgt := 28) (zdk oM_hearAll 4 rfl) (by decide) (fun q9 => absurd q9 ((nI_ge (a := i) (b := 7) (by omega) (by decide)))) (fun _ => ?_)
      refine r_aload_n (zdk oM_hearAll 5 rfl) rfl rfl ?_
      refine r_getr (kf := 12) (zdk oM_hearAll 6 rfl) rfl rfl (by decide) lF_M_25 rfl ?_
      refine r_iload_n (zdk oM_hearAll 7 rfl) rfl rfl ?_
      refine r_iconst (v := 1) (zdk oM_hearAll 8 rfl) (by decide) ?_
      refine r_aload_n (zdk oM_hearAll 9 rfl) rfl rfl ?_
      refine r_geti (kf := 10) (zdk oM_hearAll 10 rfl) rfl rfl (by decide) lF_M_79 rfl ?_
      rw [show (zfill h 33 i (nI (2 ^ np - 1))).1 27 10 = nI np by rw [zf1, if_neg (by omega), hp]]
      refine r_ishl (zdk oM_hearAll 11 rfl) ?_
      refine r_iconst (v := 1) (zdk oM_hearAll 12 rfl) (by decide) ?_
      refine r_isub (zdk oM_hearAll 13 rfl) ?_
      refine r_tp (zall h7) ?_
      refine r_iast (zdk oM_hearAll 14 rfl) rfl (vp_in_nI (n := i) (by omega) (by decide)) ?_
      first | refine r_iinc (zdk oM_hearAll 15 rfl) rfl (zinc _) rfl ?_ | refine r_iinc (zdk oM_hearAll 15 rfl) rfl rfl rfl ?_
      refine r_goto (tgt := 2) (zdk oM_hearAll 16 rfl) (by decide) ?_
      rw [ei, zfill_s]
      exact ih (i + 1) (by omega)
  refine zmet (by decide +kernel) (Nat.le_of_ble_eq_true rfl) ?_
  refine r_iconst (v := 0) (zdk oM_hearAll 0 rfl) (by decide) ?_
  refine r_istore_n (zdk oM_hearAll 1 rfl) rfl (Nat.le_of_ble_eq_true rfl) rfl ?_
  have l0 := loop 7 0 (by omega)
  rw [zfill_0] at l0
  exact l0
theorem nI_inj {a b : Nat} (ha : a < 2 ^ 31) (hb : b < 2 ^ 31) (e : nI a = nI b) : a = b := by
  have e2 := congrArg Int32.toNatClampNeg e
  rw [nI_clamp ha, nI_clamp hb] at e2
  exact e2
/-- the first state of one process -/
def zMbg (h : zH) (p n : Nat) (v : Int32) : zH := (fun a j => if a = 34 ∧ 5 * p ≤ j ∧ j < 5 * p + n then (if j = 5 * p + 1 then (if h.1 28 3 < v then h.1 28 3 else v) else 0) else h.1 a j, h.2)
theorem spM_begin (d : Nat) (h : zH) (p : Nat) (v : Int32) (hp : p < 7) : zSP d 0 0 mM_begin [.inr (.inr 27), .inl (nI p), .inl v] h (zU (zMbg h p 5 v)) := by
  suffices main : ∀ K : zR → zH → Prop, K (.inl none) (zMbg h p 5 v) → zSP d 0 0 mM_begin [.inr (.inr 27), .inl (nI p), .inl v] h K from main _ (zUi rfl)
  intro K hK
  have loop : ∀ k i, i + k = 5 → zMC false d 0 0 0 0 mM_begin K 2 [some (.inr (.inr 27)), some (.inl (nI p)), some (.inl v), some (.inl (nI i))] [] (zMbg h p i v) := by
    intro k
    induction k with
    | zero =>
      intro i hi
      have e : i = 5 := by omega
      subst e
      refine r_iload_n (zdk oM_begin 2 rfl) rfl rfl ?_
      refine r_iconst (v := 5) (zdk oM_begin 3 rfl) (by decide) ?_
      refine r_icmp_ge (tgt := 52) (zdk oM_begin 4 rfl) (by decide) (fun _ => ?_) (fun q9 => absurd ((Int32.le_refl (nI 5))) q9)
      refine r_vret (zdk oM_begin 32 rfl) rfl ?_
      exact hK
    | succ k ih =>
      intro i hi
      have e28 : (zMbg h p i v).1 28 3 = h.1 28 3 := rfl
      have fin : zMC false d 0 0 0 0 mM_begin K 45 [some (.inr (.inr 27)), some (.inl (nI p)), some (.inl v), some (.inl (nI i))] [.inl (if i = 1 then (if h.1 28 3 < v then h.1 28 3 else v) else 0), .inl (nI (5 * p + i)), .inr (.inr 34)] (zMbg h p i v) := by
        refine r_iast (zdk oM_begin 29 rfl) rfl (vp_in_nI (n := 5 * p + i) (by omega) (by decide)) ?_
        first | refine r_iinc (zdk oM_begin 30 rfl) rfl (zinc _) rfl ?_ | refine r_iinc (zdk oM_begin 30 rfl) rfl rfl rfl ?_
        refine r_goto (tgt := 2) (zdk oM_begin 31 rfl) (by decide) ?_
        rw [nI_clamp (n := 5 * p + i) (by omega)]
        have e : zput (zMbg h p i v) 34 (5 * p + i) (if i = 1 then (if h.1 28 3 < v then h.1 28 3 else v) else 0) = zMbg h p (i + 1) v := by
          refine Prod.ext ?_ rfl
          funext a j
          simp only [zp1, zMbg]
          generalize (if h.1 28 3 < v then h.1 28 3 else v) = x
          by_cases q : a = 34 ∧ j = 5 * p + i
          · have c1 : a = 34 ∧ 5 * p ≤ j ∧ j < 5 * p + (i + 1) := by omega
            rw [if_pos q, if_pos c1]
            by_cases q1 : i = 1
            · have c2 : j = 5 * p + 1 := by omega
              rw [if_pos q1, if_pos c2]
            · have c2 : ¬ j = 5 * p + 1 := by omega
              rw [if_neg q1, if_neg c2]
          · rw [if_neg q]
            by_cases q2 : a = 34 ∧ 5 * p ≤ j ∧ j < 5 * p + i
            · have c1 : a = 34 ∧ 5 * p ≤ j ∧ j < 5 * p + (i + 1) := by omega
              rw [if_pos q2, if_pos c1]
            · have c1 : ¬ (a = 34 ∧ 5 * p ≤ j ∧ j < 5 * p + (i + 1)) := by omega
              rw [if_neg q2, if_neg c1]
        rw [e]
        exact ih (i + 1) (by omega)
      refine r_iload_n (zdk oM_begin 2 rfl) rfl rfl ?_
      refine r_iconst (v := 5) (zdk oM_begin 3 rfl) (by decide) ?_
      refine r_icmp_ge (tgt := 52) (zdk oM_begin 4 rfl) (by decide) (fun q9 => absurd q9 ((nI_ge (a := i) (b := 5) (by omega) (by decide)))) (fun _ => ?_)
      refine r_aload_n (zdk oM_begin 5 rfl) rfl rfl ?_
      refine r_getr (kf := 13) (zdk oM_begin 6 rfl) rfl rfl (by decide) lF_M_28 rfl ?_
      refine r_iconst (v := 5) (zdk oM_begin 7 rfl) (by decide) ?_
      refine r_iload_n (zdk oM_begin 8 rfl) rfl rfl ?_
      refine r_imul (zdk oM_begin 9 rfl) ?_
      refine r_tp (pk_mul 5 p) ?_
      refine r_iload_n (zdk oM_begin 10 rfl) rfl rfl ?_
      refine r_iadd (zdk oM_begin 11 rfl) ?_
      refine r_tp (nI_add (5 * p) i) ?_
      refine r_iload_n (zdk oM_begin 12 rfl) rfl rfl ?_
      refine r_iconst (v := 1) (zdk oM_begin 13 rfl) (by decide) ?_
      refine r_icmp_eq (tgt := 25) (zdk oM_begin 14 rfl) (by decide) (fun h1 => ?_) (fun h1 => ?_)
      · have e1 : i = 1 := by
          have e0 : nI i = nI 1 := h1
          exact nI_inj (by omega) (by decide) e0
        rw [if_pos e1] at fin
        refine r_iload_n (zdk oM_begin 17 rfl) rfl rfl ?_
        refine r_aload_n (zdk oM_begin 18 rfl) rfl rfl ?_
        refine r_getr (kf := 2) (zdk oM_begin 19 rfl) rfl rfl (by decide) lF_M_7 rfl ?_
        refine r_iconst (v := 3) (zdk oM_begin 20 rfl) (by decide) ?_
        refine r_iald (zdk oM_begin 21 rfl) rfl (vp_in_nI (n := 3) (by decide) (by decide)) ?_
        rw [show (3 : Int32).toNatClampNeg = 3 from rfl, e28]
        refine r_icmp_le (tgt := 44) (zdk oM_begin 22 rfl) (by decide) (fun h2 => ?_) (fun h2 => ?_)
        · rw [if_neg (Int32.not_lt.mpr h2)] at fin
          refine r_iload_n (zdk oM_begin 28 rfl) rfl rfl ?_
          exact fin
        · rw [if_pos (Int32.not_le.mp h2)] at fin
          refine r_aload_n (zdk oM_begin 23 rfl) rfl rfl ?_
          refine r_getr (kf := 2) (zdk oM_begin 24 rfl) rfl rfl (by decide) lF_M_7 rfl ?_
          refine r_iconst (v := 3) (zdk oM_begin 25 rfl) (by decide) ?_
          refine r_iald (zdk oM_begin 26 rfl) rfl (vp_in_nI (n := 3) (by decide) (by decide)) ?_
          refine r_goto (tgt := 45) (zdk oM_begin 27 rfl) (by decide) ?_
          rw [show (3 : Int32).toNatClampNeg = 3 from rfl, e28]
          exact fin
      · rw [if_neg (show ¬ i = 1 from fun z => h1 (by rw [z]; rfl))] at fin
        refine r_iconst (v := 0) (zdk oM_begin 15 rfl) (by decide) ?_
        refine r_goto (tgt := 45) (zdk oM_begin 16 rfl) (by decide) ?_
        exact fin
  refine zmet (by decide +kernel) (Nat.le_of_ble_eq_true rfl) ?_
  refine r_iconst (v := 0) (zdk oM_begin 0 rfl) (by decide) ?_
  refine r_istore_n (zdk oM_begin 1 rfl) rfl (Nat.le_of_ble_eq_true rfl) rfl ?_
  have l0 := loop 5 0 (by omega)
  rw [show zMbg h p 0 v = h from Prod.ext (funext (fun a => funext (fun j => if_neg (by omega)))) rfl] at l0
  exact l0
/-- the first i values copied -/
def zcp (h : zH) (x y i : Nat) : zH := (fun a j => if a = x ∧ j < i then h.1 y j else h.1 a j, h.2)
theorem zcp1 {h : zH} {x y i a j : Nat} : (zcp h x y i).1 a j = if a = x ∧ j < i then h.1 y j else h.1 a j := rfl
theorem zcp_0 {h : zH} {x y : Nat} : zcp h x y 0 = h := Prod.ext (funext (fun a => funext (fun j => if_neg (by omega)))) rfl
theorem zcp_s {h : zH} {x y i : Nat} (hxy : x ≠ y) : zput (zcp h x y i) x i ((zcp h x y i).1 y i) = zcp h x y (i + 1) := by
  refine Prod.ext ?_ rfl
  funext a j
  simp only [zp1, zcp1]
  by_cases c2 : a = x
  · subst c2
    by_cases c3 : j = i
    · simp [c3, hxy.symm]
    · have e : (j < i + 1) = (j < i) := by simp only [eq_iff_iff]; omega
      simp [c3, e]
  · simp [c2]
theorem zcp_s2 {h : zH} {x y u v i : Nat} (hxy : x ≠ y) (huv : u ≠ v) (hxu : x ≠ u) (hxv : x ≠ v) (huy : u ≠ y) : zput (zput (zcp (zcp h x y i) u v i) x i ((zcp (zcp h x y i) u v i).1 y i)) u i ((zput (zcp (zcp h x y i) u v i) x i ((zcp (zcp h x y i) u v i).1 y i)).1 v i) = zcp (zcp h x y (i + 1)) u v (i + 1) := by
  refine Prod.ext ?_ rfl
  funext a j
  simp only [zp1, zcp1]
  by_cases c1 : a = u
  · subst c1
    by_cases c2 : j = i
    · simp [c2, hxv.symm, huv.symm]
    · have e : (j < i + 1) = (j < i) := by simp only [eq_iff_iff]; omega
      simp [c2, e, hxu.symm, hxv.symm]
  · by_cases c2 : a = x
    · subst c2
      by_cases c3 : j = i
      · simp [c1, c3, hxy.symm, huy.symm]
      · have e : (j < i + 1) = (j < i) := by simp only [eq_iff_iff]; omega
        simp [c1, c3, e]
    · simp [c1, c2]
theorem spM_keep (d : Nat) (h : zH) : zSP d 0 0 mM_keep [.inr (.inr 27)] h (zU (zcp (zcp (zcp h 44 34 35) 45 36 7) 46 33 7)) := by
  suffices main : ∀ K : zR → zH → Prop, K (.inl none) (zcp (zcp (zcp h 44 34 35) 45 36 7) 46 33 7) → zSP d 0 0 mM_keep [.inr (.inr 27)] h K from main _ (zUi rfl)
  intro K hK
  have loop2 : ∀ k i, i + k = 7 → zMC false d 0 0 0 0 mM_keep K 28 [some (.inr (.inr 27)), some (.inl (nI i))] [] (zcp (zcp (zcp h 44 34 35) 45 36 i) 46 33 i) := by
    intro k
    induction k with
    | zero =>
      intro i hi
      have e : i = 7 := by omega
      subst e
      refine r_iload_n (zdk oM_keep 17 rfl) rfl rfl ?_
      refine r_bipush (v := 7) (zdk oM_keep 18 rfl) (by decide) ?_
      refine r_icmp_ge (tgt := 64) (zdk oM_keep 19 rfl) (by decide) (fun _ => ?_) (fun q9 => absurd ((Int32.le_refl (nI 7))) q9)
      refine r_vret (zdk oM_keep 38 rfl) rfl ?_
      exact hK
    | succ k ih =>
      intro i hi
      have ei : (nI i).toNatClampNeg = i := nI_clamp (by omega)
      refine r_iload_n (zdk oM_keep 17 rfl) rfl rfl ?_
      refine r_bipush (v := 7) (zdk oM_keep 18 rfl) (by decide) ?_
      refine r_icmp_ge (tgt := 64) (zdk oM_keep 19 rfl) (by decide) (fun q9 => absurd q9 ((nI_ge (a := i) (b := 7) (by omega) (by decide)))) (fun _ => ?_)
      refine r_aload_n (zdk oM_keep 20 rfl) rfl rfl ?_
      refine r_getr (kf := 30) (zdk oM_keep 21 rfl) rfl rfl (by decide) lF_M_66 rfl ?_
      refine r_iload_n (zdk oM_keep 22 rfl) rfl rfl ?_
      refine r_aload_n (zdk oM_keep 23 rfl) rfl rfl ?_
      refine r_getr (kf := 15) (zdk oM_keep 24 rfl) rfl rfl (by decide) lF_M_34 rfl ?_
      refine r_iload_n (zdk oM_keep 25 rfl) rfl rfl ?_
      refine r_iald (zdk oM_keep 26 rfl) rfl (vp_in_nI (n := i) (by omega) (by decide)) ?_
      refine r_iast (zdk oM_keep 27 rfl) rfl (vp_in_nI (n := i) (by omega) (by decide)) ?_
      refine r_aload_n (zdk oM_keep 28 rfl) rfl rfl ?_
      refine r_getr (kf := 31) (zdk oM_keep 29 rfl) rfl rfl (by decide) lF_M_69 rfl ?_
      refine r_iload_n (zdk oM_keep 30 rfl) rfl rfl ?_
      refine r_aload_n (zdk oM_keep 31 rfl) rfl rfl ?_
      refine r_getr (kf := 12) (zdk oM_keep 32 rfl) rfl rfl (by decide) lF_M_25 rfl ?_
      refine r_iload_n (zdk oM_keep 33 rfl) rfl rfl ?_
      refine r_iald (zdk oM_keep 34 rfl) rfl (vp_in_nI (n := i) (by omega) (by decide)) ?_
      refine r_iast (zdk oM_keep 35 rfl) rfl (vp_in_nI (n := i) (by omega) (by decide)) ?_
      first | refine r_iinc (zdk oM_keep 36 rfl) rfl (zinc _) rfl ?_ | refine r_iinc (zdk oM_keep 36 rfl) rfl rfl rfl ?_
      refine r_goto (tgt := 28) (zdk oM_keep 37 rfl) (by decide) ?_
      rw [ei, zcp_s2 (by decide) (by decide) (by decide) (by decide) (by decide)]
      exact ih (i + 1) (by omega)
  have loop : ∀ k i, i + k = 35 → zMC false d 0 0 0 0 mM_keep K 2 [some (.inr (.inr 27)), some (.inl (nI i))] [] (zcp h 44 34 i) := by
    intro k
    induction k with
    | zero =>
      intro i hi
      have e : i = 35 := by omega
      subst e
      refine r_iload_n (zdk oM_keep 2 rfl) rfl rfl ?_
      refine r_bipush (v := 35) (zdk oM_keep 3 rfl) (by decide) ?_
      refine r_icmp_ge (tgt := 26) (zdk oM_keep 4 rfl) (by decide) (fun _ => ?_) (fun q9 => absurd ((Int32.le_refl (nI 35))) q9)
      refine r_iconst (v := 0) (zdk oM_keep 15 rfl) (by decide) ?_
      refine r_istore_n (zdk oM_keep 16 rfl) rfl (Nat.le_of_ble_eq_true rfl) rfl ?_
      have l0 := loop2 7 0 (by omega)
      rw [zcp_0, zcp_0] at l0
      exact l0
    | succ k ih =>
      intro i hi
      have ei : (nI i).toNatClampNeg = i := nI_clamp (by omega)
      refine r_iload_n (zdk oM_keep 2 rfl) rfl rfl ?_
      refine r_bipush (v := 35) (zdk oM_keep 3 rfl) (by decide) ?_
      refine r_icmp_ge (tgt := 26) (zdk oM_keep 4 rfl) (by decide) (fun q9 => absurd q9 ((nI_ge (a := i) (b := 35) (by omega) (by decide)))) (fun _ => ?_)
      refine r_aload_n (zdk oM_keep 5 rfl) rfl rfl ?_
      refine r_getr (kf := 29) (zdk oM_keep 6 rfl) rfl rfl (by decide) lF_M_63 rfl ?_
      refine r_iload_n (zdk oM_keep 7 rfl) rfl rfl ?_
      refine r_aload_n (zdk oM_keep 8 rfl) rfl rfl ?_
      refine r_getr (kf := 13) (zdk oM_keep 9 rfl) rfl rfl (by decide) lF_M_28 rfl ?_
      refine r_iload_n (zdk oM_keep 10 rfl) rfl rfl ?_
      refine r_iald (zdk oM_keep 11 rfl) rfl (vp_in_nI (n := i) (by omega) (by decide)) ?_
      refine r_iast (zdk oM_keep 12 rfl) rfl (vp_in_nI (n := i) (by omega) (by decide)) ?_
      first | refine r_iinc (zdk oM_keep 13 rfl) rfl (zinc _) rfl ?_ | refine r_iinc (zdk oM_keep 13 rfl) rfl rfl rfl ?_
      refine r_goto (tgt := 2) (zdk oM_keep 14 rfl) (by decide) ?_
      rw [ei, zcp_s (by decide)]
      exact ih (i + 1) (by omega)
  refine zmet (by decide +kernel) (Nat.le_of_ble_eq_true rfl) ?_
  refine r_iconst (v := 0) (zdk oM_keep 0 rfl) (by decide) ?_
  refine r_istore_n (zdk oM_keep 1 rfl) rfl (Nat.le_of_ble_eq_true rfl) rfl ?_
  have l0 := loop 35 0 (by omega)
  rw [zcp_0] at l0
  exact l0
theorem spM_bringBack (d : Nat) (h : zH) : zSP d 0 0 mM_bringBack [.inr (.inr 27)] h (zU (zcp (zcp (zcp h 34 44 35) 36 45 7) 33 46 7)) := by
  suffices main : ∀ K : zR → zH → Prop, K (.inl none) (zcp (zcp (zcp h 34 44 35) 36 45 7) 33 46 7) → zSP d 0 0 mM_bringBack [.inr (.inr 27)] h K from main _ (zUi rfl)
  intro K hK
  have loop2 : ∀ k i, i + k = 7 → zMC false d 0 0 0 0 mM_bringBack K 28 [some (.inr (.inr 27)), some (.inl (nI i))] [] (zcp (zcp (zcp h 34 44 35) 36 45 i) 33 46 i) := by
    intro k
    induction k with
    | zero =>
      intro i hi
      have e : i = 7 := by omega
      subst e
      refine r_iload_n (zdk oM_bringBack 17 rfl) rfl rfl ?_
      refine r_bipush (v := 7) (zdk oM_bringBack 18 rfl) (by decide) ?_
      refine r_icmp_ge (tgt := 64) (zdk oM_bringBack 19 rfl) (by decide) (fun _ => ?_) (fun q9 => absurd ((Int32.le_refl (nI 7))) q9)
      refine r_vret (zdk oM_bringBack 38 rfl) rfl ?_
      exact hK
    | succ k ih =>
      intro i hi
      have ei : (nI i).toNatClampNeg = i := nI_clamp (by omega)
      refine r_iload_n (zdk oM_bringBack 17 rfl) rfl rfl ?_
      refine r_bipush (v := 7) (zdk oM_bringBack 18 rfl) (by decide) ?_
      refine r_icmp_ge (tgt := 64) (zdk oM_bringBack 19 rfl) (by decide) (fun q9 => absurd q9 ((nI_ge (a := i) (b := 7) (by omega) (by decide)))) (fun _ => ?_)
      refine r_aload_n (zdk oM_bringBack 20 rfl) rfl rfl ?_
      refine r_getr (kf := 15) (zdk oM_bringBack 21 rfl) rfl rfl (by decide) lF_M_34 rfl ?_
      refine r_iload_n (zdk oM_bringBack 22 rfl) rfl rfl ?_
      refine r_aload_n (zdk oM_bringBack 23 rfl) rfl rfl ?_
      refine r_getr (kf := 30) (zdk oM_bringBack 24 rfl) rfl rfl (by decide) lF_M_66 rfl ?_
      refine r_iload_n (zdk oM_bringBack 25 rfl) rfl rfl ?_
      refine r_iald (zdk oM_bringBack 26 rfl) rfl (vp_in_nI (n := i) (by omega) (by decide)) ?_
      refine r_iast (zdk oM_bringBack 27 rfl) rfl (vp_in_nI (n := i) (by omega) (by decide)) ?_
      refine r_aload_n (zdk oM_bringBack 28 rfl) rfl rfl ?_
      refine r_getr (kf := 12) (zdk oM_bringBack 29 rfl) rfl rfl (by decide) lF_M_25 rfl ?_
      refine r_iload_n (zdk oM_bringBack 30 rfl) rfl rfl ?_
      refine r_aload_n (zdk oM_bringBack 31 rfl) rfl rfl ?_
      refine r_getr (kf := 31) (zdk oM_bringBack 32 rfl) rfl rfl (by decide) lF_M_69 rfl ?_
      refine r_iload_n (zdk oM_bringBack 33 rfl) rfl rfl ?_
      refine r_iald (zdk oM_bringBack 34 rfl) rfl (vp_in_nI (n := i) (by omega) (by decide)) ?_
      refine r_iast (zdk oM_bringBack 35 rfl) rfl (vp_in_nI (n := i) (by omega) (by decide)) ?_
      first | refine r_iinc (zdk oM_bringBack 36 rfl) rfl (zinc _) rfl ?_ | refine r_iinc (zdk oM_bringBack 36 rfl) rfl rfl rfl ?_
      refine r_goto (tgt := 28) (zdk oM_bringBack 37 rfl) (by decide) ?_
      rw [ei, zcp_s2 (by decide) (by decide) (by decide) (by decide) (by decide)]
      exact ih (i + 1) (by omega)
  have loop : ∀ k i, i + k = 35 → zMC false d 0 0 0 0 mM_bringBack K 2 [some (.inr (.inr 27)), some (.inl (nI i))] [] (zcp h 34 44 i) := by
    intro k
    induction k with
    | zero =>
      intro i hi
      have e : i = 35 := by omega
      subst e
      refine r_iload_n (zdk oM_bringBack 2 rfl) rfl rfl ?_
      refine r_bipush (v := 35) (zdk oM_bringBack 3 rfl) (by decide) ?_
      refine r_icmp_ge (tgt := 26) (zdk oM_bringBack 4 rfl) (by decide) (fun _ => ?_) (fun q9 => absurd ((Int32.le_refl (nI 35))) q9)
      refine r_iconst (v := 0) (zdk oM_bringBack 15 rfl) (by decide) ?_
      refine r_istore_n (zdk oM_bringBack 16 rfl) rfl (Nat.le_of_ble_eq_true rfl) rfl ?_
      have l0 := loop2 7 0 (by omega)
      rw [zcp_0, zcp_0] at l0
      exact l0
    | succ k ih =>
      intro i hi
      have ei : (nI i).toNatClampNeg = i := nI_clamp (by omega)
      refine r_iload_n (zdk oM_bringBack 2 rfl) rfl rfl ?_
      refine r_bipush (v := 35) (zdk oM_bringBack 3 rfl) (by decide) ?_
      refine r_icmp_ge (tgt := 26) (zdk oM_bringBack 4 rfl) (by decide) (fun q9 => absurd q9 ((nI_ge (a := i) (b := 35) (by omega) (by decide)))) (fun _ => ?_)
      refine r_aload_n (zdk oM_bringBack 5 rfl) rfl rfl ?_
      refine r_getr (kf := 13) (zdk oM_bringBack 6 rfl) rfl rfl (by decide) lF_M_28 rfl ?_
      refine r_iload_n (zdk oM_bringBack 7 rfl) rfl rfl ?_
      refine r_aload_n (zdk oM_bringBack 8 rfl) rfl rfl ?_
      refine r_getr (kf := 29) (zdk oM_bringBack 9 rfl) rfl rfl (by decide) lF_M_63 rfl ?_
      refine r_iload_n (zdk oM_bringBack 10 rfl) rfl rfl ?_
      refine r_iald (zdk oM_bringBack 11 rfl) rfl (vp_in_nI (n := i) (by omega) (by decide)) ?_
      refine r_iast (zdk oM_bringBack 12 rfl) rfl (vp_in_nI (n := i) (by omega) (by decide)) ?_
      first | refine r_iinc (zdk oM_bringBack 13 rfl) rfl (zinc _) rfl ?_ | refine r_iinc (zdk oM_bringBack 13 rfl) rfl rfl rfl ?_
      refine r_goto (tgt := 2) (zdk oM_bringBack 14 rfl) (by decide) ?_
      rw [ei, zcp_s (by decide)]
      exact ih (i + 1) (by omega)
  refine zmet (by decide +kernel) (Nat.le_of_ble_eq_true rfl) ?_
  refine r_iconst (v := 0) (zdk oM_bringBack 0 rfl) (by decide) ?_
  refine r_istore_n (zdk oM_bringBack 1 rfl) rfl (Nat.le_of_ble_eq_true rfl) rfl ?_
  have l0 := loop 35 0 (by omega)
  rw [zcp_0] at l0
  exact l0
theorem spM_isProcess (d : Nat) (h : zH) (p : Int32) : zSP d 0 0 mM_isProcess [.inr (.inr 27), .inl p] h (zI (fBo (decide (¬ p < 0 ∧ ¬ h.1 27 10 ≤ p))) h) := by
  refine zmet (by decide +kernel) (Nat.le_of_ble_eq_true rfl) ?_
  refine r_iload_n (zdk oM_isProcess 0 rfl) rfl rfl ?_
  refine r_if_lt (tgt := 16) (zdk oM_isProcess 1 rfl) (by decide) (fun hc0 => ?_) (fun hc0 => ?_)
  · refine r_iconst (v := 0) (zdk oM_isProcess 8 rfl) (by decide) ?_
    refine r_zret (zdk oM_isProcess 9 rfl) rfl (by decide) ?_
    refine zIi ?_
    simp_all [fBo]
  · refine r_iload_n (zdk oM_isProcess 2 rfl) rfl rfl ?_
    refine r_aload_n (zdk oM_isProcess 3 rfl) rfl rfl ?_
    refine r_geti (kf := 10) (zdk oM_isProcess 4 rfl) rfl rfl (by decide) lF_M_79 rfl ?_
    refine r_icmp_ge (tgt := 16) (zdk oM_isProcess 5 rfl) (by decide) (fun hc1 => ?_) (fun hc1 => ?_)
    · refine r_iconst (v := 0) (zdk oM_isProcess 8 rfl) (by decide) ?_
      refine r_zret (zdk oM_isProcess 9 rfl) rfl (by decide) ?_
      refine zIi ?_
      simp_all [fBo]
    · refine r_iconst (v := 1) (zdk oM_isProcess 6 rfl) (by decide) ?_
      refine r_goto (tgt := 17) (zdk oM_isProcess 7 rfl) (by decide) ?_
      refine r_zret (zdk oM_isProcess 9 rfl) rfl (by decide) ?_
      refine zIi ?_
      simp_all [fBo]
