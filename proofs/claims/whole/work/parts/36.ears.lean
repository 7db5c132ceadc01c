/-! what one process hears: RoundLab$Ears (at 10 and at 17) -/
def zmask : List Bool → List (Option zV) → List (Option zV)
  | b :: m, x :: t => (bif b then x else none) :: zmask m t
  | _, _ => []
theorem zmask_get : ∀ {m : List Bool} {L : List (Option zV)} {i : Nat} {v : zV}, (zmask m L)[i]? = some (some v) → L[i]? = some (some v) := by
  intro m
  induction m with
  | nil => intro L i v h; simp [zmask] at h
  | cons b m ih =>
    intro L i v h
    cases L with
    | nil => simp [zmask] at h
    | cons x t =>
      simp only [zmask] at h
      cases i with
      | zero =>
        rw [List.getElem?_cons_zero] at h ⊢
        cases b with
        | true => exact h
        | false => cases h
      | succ i =>
        rw [List.getElem?_cons_succ] at h ⊢
        exact ih h
theorem zmask_len : ∀ {m : List Bool} {L : List (Option zV)}, m.length = L.length → (zmask m L).length = L.length := by
  intro m
  induction m with
  | nil => intro L h; simp [zmask]; simpa using h
  | cons b m ih =>
    intro L h
    cases L with
    | nil => simp at h
    | cons x t => simp only [zmask, List.length_cons]; rw [ih (by simpa using h)]
/-- fewer locals are spoken of -/
theorem r_mask {t : Bool} {d nc ns C S : Nat} {M : zM} {K : zR → zH → Prop} {pc : Nat} {L L0 : List (Option zV)} {st : List zV} {h : zH} (m : List Bool) (hm : m.length = L.length) (e : zmask m L = L0) (k : zMC t d nc ns C S M K pc L0 st h) : zMC t d nc ns C S M K pc L st h := by
  subst e
  exact fun c1 c2 l D ad cI cL sz p e s m args below meth cd hC H locs ls hP hS hl => k c1 c2 l D ad cI cL sz p e s m args below meth cd hC H locs ls hP hS ⟨by rw [zmask_len hm]; exact hl.1, hl.2.1, fun i v hi => hl.2.2 i v (zmask_get hi)⟩
theorem fB_1 {s : Int32} {p : Nat} (h : ¬ fB s p = 0) : fB s p = 1 := (fB_01 s p).resolve_left h
theorem spE_howOften_10 (d : Nat) (h : zH) (v : Int32) : zSP d 0 0 mE_howOften [.inr (.inr 10), .inl v] h (zI (nI (fTm (h.1 11) (h.1 10 6) v 7)) h) := by
  suffices main : ∀ K, (∀ x, x = fTm (h.1 11) (h.1 10 6) v 7 → K (.inl (some (.inl (nI x)))) h) → zSP d 0 0 mE_howOften [.inr (.inr 10), .inl v] h K from main _ (fun x hx => zIi (by rw [hx]))
  intro K hK
  have loop : ∀ k p, p + k = 7 → zMC false d 0 0 0 0 mE_howOften K 4 [some (.inr (.inr 10)), some (.inl v), some (.inl (nI (fTm (h.1 11) (h.1 10 6) v p))), some (.inl (nI p))] [] h := by
    intro k
    induction k with
    | zero =>
      intro p hp
      have ep : p = 7 := by omega
      subst ep
      refine r_iload_n (zdk oE_howOften 4 rfl) rfl rfl ?_
      refine r_bipush (v := 7) (zdk oE_howOften 5 rfl) (by decide) ?_
      refine r_icmp_ge (tgt := 40) (zdk oE_howOften 6 rfl) (by decide) (fun _ => ?_) (fun q9 => absurd ((show (7 : Int32) ≤ nI 7 by decide)) q9)
      refine r_iload_n (zdk oE_howOften 23 rfl) rfl rfl ?_
      refine r_iret (zdk oE_howOften 24 rfl) rfl ?_
      exact hK _ rfl
    | succ k ih =>
      intro p hp
      have ep : (nI p).toNatClampNeg = p := nI_clamp (by omega)
      have step := ih (p + 1) (by omega)
      refine r_iload_n (zdk oE_howOften 4 rfl) rfl rfl ?_
      refine r_bipush (v := 7) (zdk oE_howOften 5 rfl) (by decide) ?_
      refine r_icmp_ge (tgt := 40) (zdk oE_howOften 6 rfl) (by decide) (fun q9 => absurd q9 ((nI_ge (a := p) (b := 7) (by omega) (by decide)))) (fun _ => ?_)
      refine r_aload_n (zdk oE_howOften 7 rfl) rfl rfl ?_
      refine r_geti (kf := 6) (zdk oE_howOften 8 rfl) rfl rfl (by decide) lF_E_15 rfl ?_
      refine r_iload_n (zdk oE_howOften 9 rfl) rfl rfl ?_
      refine r_ishr (zdk oE_howOften 10 rfl) ?_
      refine r_iconst (v := 1) (zdk oE_howOften 11 rfl) (by decide) ?_
      refine r_iand (zdk oE_howOften 12 rfl) ?_
      refine r_tp (y := fB (h.1 10 6) p) rfl ?_
      refine r_if_eq (tgt := 34) (zdk oE_howOften 13 rfl) (by decide) (fun hc => ?_) (fun hc => ?_)
      · first | refine r_iinc (zdk oE_howOften 21 rfl) rfl (zinc _) rfl ?_ | refine r_iinc (zdk oE_howOften 21 rfl) rfl rfl rfl ?_
        refine r_goto (tgt := 4) (zdk oE_howOften 22 rfl) (by decide) ?_
        have e9 : fTm (h.1 11) (h.1 10 6) v (p + 1) = fTm (h.1 11) (h.1 10 6) v p := by simp [fTm, hc]
        rw [e9] at step
        exact step
      · refine r_aload_n (zdk oE_howOften 14 rfl) rfl rfl ?_
        refine r_getr (kf := 0) (zdk oE_howOften 15 rfl) rfl rfl (by decide) lF_E_9 rfl ?_
        refine r_iload_n (zdk oE_howOften 16 rfl) rfl rfl ?_
        refine r_iald (zdk oE_howOften 17 rfl) rfl (vp_in_nI (show p < 7 by omega) (by decide)) ?_
        refine r_iload_n (zdk oE_howOften 18 rfl) rfl rfl ?_
        rw [ep]
        refine r_icmp_ne (tgt := 34) (zdk oE_howOften 19 rfl) (by decide) (fun hc2 => ?_) (fun hc2 => ?_)
        · first | refine r_iinc (zdk oE_howOften 21 rfl) rfl (zinc _) rfl ?_ | refine r_iinc (zdk oE_howOften 21 rfl) rfl rfl rfl ?_
          refine r_goto (tgt := 4) (zdk oE_howOften 22 rfl) (by decide) ?_
          have e9 : fTm (h.1 11) (h.1 10 6) v (p + 1) = fTm (h.1 11) (h.1 10 6) v p := by simp [fTm, hc2]
          rw [e9] at step
          exact step
        · first | refine r_iinc (zdk oE_howOften 20 rfl) rfl (zinc _) rfl ?_ | refine r_iinc (zdk oE_howOften 20 rfl) rfl rfl rfl ?_
          first | refine r_iinc (zdk oE_howOften 21 rfl) rfl (zinc _) rfl ?_ | refine r_iinc (zdk oE_howOften 21 rfl) rfl rfl rfl ?_
          refine r_goto (tgt := 4) (zdk oE_howOften 22 rfl) (by decide) ?_
          have e9 : fTm (h.1 11) (h.1 10 6) v (p + 1) = fTm (h.1 11) (h.1 10 6) v p + 1 := by simp [fTm, fB_1 hc, hc2]
          rw [e9] at step
          exact step
  refine zmet (by decide +kernel) (Nat.le_of_ble_eq_true rfl) ?_
  refine r_iconst (v := 0) (zdk oE_howOften 0 rfl) (by decide) ?_
  refine r_istore_n (zdk oE_howOften 1 rfl) rfl (Nat.le_of_ble_eq_true rfl) rfl ?_
  refine r_iconst (v := 0) (zdk oE_howOften 2 rfl) (by decide) ?_
  refine r_istore_n (zdk oE_howOften 3 rfl) rfl (Nat.le_of_ble_eq_true rfl) rfl ?_
  exact loop 7 0 rfl
theorem spE_from_10 (d : Nat) (h : zH) (a : Nat) (ha : a < 2 ^ 31) : zSP d 0 0 mE_from [.inr (.inr 10), .inl (nI a)] h (zI (if a < 7 ∧ fB (h.1 10 6) a = 1 then h.1 11 a else 0) h) := by
  have ep : (nI a).toNatClampNeg = a := nI_clamp ha
  refine zmet (by decide +kernel) (Nat.le_of_ble_eq_true rfl) ?_
  refine r_iload_n (zdk oE_from 0 rfl) rfl rfl ?_
  refine r_bipush (v := 7) (zdk oE_from 1 rfl) (by decide) ?_
  refine r_icmp_ge (tgt := 21) (zdk oE_from 2 rfl) (by decide) (fun hc => ?_) (fun hc => ?_)
  · have h7 : 7 ≤ a := (nI_leI (by decide) ha).mp hc
    refine r_iconst (v := 0) (zdk oE_from 12 rfl) (by decide) ?_
    refine r_istore_n (zdk oE_from 13 rfl) rfl (Nat.le_of_ble_eq_true rfl) rfl ?_
    refine r_iload_n (zdk oE_from 14 rfl) rfl rfl ?_
    refine r_if_eq (tgt := 36) (zdk oE_from 15 rfl) (by decide) (fun _ => ?_) (fun q9 => absurd ((rfl : (0 : Int32) = 0)) q9)
    refine r_iconst (v := 0) (zdk oE_from 21 rfl) (by decide) ?_
    refine r_iret (zdk oE_from 22 rfl) rfl ?_
    exact zIi (by rw [if_neg (by omega)])
  · have h7 : a < 7 := Nat.not_le.mp (fun q => hc ((nI_leI (by decide) ha).mpr q))
    refine r_aload_n (zdk oE_from 3 rfl) rfl rfl ?_
    refine r_geti (kf := 6) (zdk oE_from 4 rfl) rfl rfl (by decide) lF_E_15 rfl ?_
    refine r_iload_n (zdk oE_from 5 rfl) rfl rfl ?_
    refine r_ishr (zdk oE_from 6 rfl) ?_
    refine r_iconst (v := 1) (zdk oE_from 7 rfl) (by decide) ?_
    refine r_iand (zdk oE_from 8 rfl) ?_
    refine r_tp (y := fB (h.1 10 6) a) rfl ?_
    refine r_if_eq (tgt := 21) (zdk oE_from 9 rfl) (by decide) (fun hc2 => ?_) (fun hc2 => ?_)
    · refine r_iconst (v := 0) (zdk oE_from 12 rfl) (by decide) ?_
      refine r_istore_n (zdk oE_from 13 rfl) rfl (Nat.le_of_ble_eq_true rfl) rfl ?_
      refine r_iload_n (zdk oE_from 14 rfl) rfl rfl ?_
      refine r_if_eq (tgt := 36) (zdk oE_from 15 rfl) (by decide) (fun _ => ?_) (fun q9 => absurd ((rfl : (0 : Int32) = 0)) q9)
      refine r_iconst (v := 0) (zdk oE_from 21 rfl) (by decide) ?_
      refine r_iret (zdk oE_from 22 rfl) rfl ?_
      exact zIi (by rw [if_neg (fun q => by rw [hc2] at q; exact absurd q.2 (by decide))])
    · refine r_iconst (v := 1) (zdk oE_from 10 rfl) (by decide) ?_
      refine r_goto (tgt := 22) (zdk oE_from 11 rfl) (by decide) ?_
      refine r_istore_n (zdk oE_from 13 rfl) rfl (Nat.le_of_ble_eq_true rfl) rfl ?_
      refine r_iload_n (zdk oE_from 14 rfl) rfl rfl ?_
      refine r_if_eq (tgt := 36) (zdk oE_from 15 rfl) (by decide) (fun q9 => absurd q9 ((show ¬ (1 : Int32) = 0 by decide))) (fun _ => ?_)
      refine r_aload_n (zdk oE_from 16 rfl) rfl rfl ?_
      refine r_getr (kf := 0) (zdk oE_from 17 rfl) rfl rfl (by decide) lF_E_9 rfl ?_
      refine r_iload_n (zdk oE_from 18 rfl) rfl rfl ?_
      refine r_iald (zdk oE_from 19 rfl) rfl (vp_in_nI h7 (by decide)) ?_
      refine r_goto (tgt := 37) (zdk oE_from 20 rfl) (by decide) ?_
      refine r_iret (zdk oE_from 22 rfl) rfl ?_
      exact zIi (by rw [if_pos ⟨h7, fB_1 hc2⟩, ep])
theorem spE_howOften_17 (d : Nat) (h : zH) (v : Int32) : zSP d 0 0 mE_howOften [.inr (.inr 17), .inl v] h (zI (nI (fTm (h.1 18) (h.1 17 6) v 7)) h) := by
  suffices main : ∀ K, (∀ x, x = fTm (h.1 18) (h.1 17 6) v 7 → K (.inl (some (.inl (nI x)))) h) → zSP d 0 0 mE_howOften [.inr (.inr 17), .inl v] h K from main _ (fun x hx => zIi (by rw [hx]))
  intro K hK
  have loop : ∀ k p, p + k = 7 → zMC false d 0 0 0 0 mE_howOften K 4 [some (.inr (.inr 17)), some (.inl v), some (.inl (nI (fTm (h.1 18) (h.1 17 6) v p))), some (.inl (nI p))] [] h := by
    intro k
    induction k with
    | zero =>
      intro p hp
      have ep : p = 7 := by omega
      subst ep
      refine r_iload_n (zdk oE_howOften 4 rfl) rfl rfl ?_
      refine r_bipush (v := 7) (zdk oE_howOften 5 rfl) (by decide) ?_
      refine r_icmp_ge (tgt := 40) (zdk oE_howOften 6 rfl) (by decide) (fun _ => ?_) (fun q9 => absurd ((show (7 : Int32) ≤ nI 7 by decide)) q9)
      refine r_iload_n (zdk oE_howOften 23 rfl) rfl rfl ?_
      refine r_iret (zdk oE_howOften 24 rfl) rfl ?_
      exact hK _ rfl
    | succ k ih =>
      intro p hp
      have ep : (nI p).toNatClampNeg = p := nI_clamp (by omega)
      have step := ih (p + 1) (by omega)
      refine r_iload_n (zdk oE_howOften 4 rfl) rfl rfl ?_
      refine r_bipush (v := 7) (zdk oE_howOften 5 rfl) (by decide) ?_
      refine r_icmp_ge (tgt := 40) (zdk oE_howOften 6 rfl) (by decide) (fun q9 => absurd q9 ((nI_ge (a := p) (b := 7) (by omega) (by decide)))) (fun _ => ?_)
      refine r_aload_n (zdk oE_howOften 7 rfl) rfl rfl ?_
      refine r_geti (kf := 6) (zdk oE_howOften 8 rfl) rfl rfl (by decide) lF_E_15 rfl ?_
      refine r_iload_n (zdk oE_howOften 9 rfl) rfl rfl ?_
      refine r_ishr (zdk oE_howOften 10 rfl) ?_
      refine r_iconst (v := 1) (zdk oE_howOften 11 rfl) (by decide) ?_
      refine r_iand (zdk oE_howOften 12 rfl) ?_
      refine r_tp (y := fB (h.1 17 6) p) rfl ?_
      refine r_if_eq (tgt := 34) (zdk oE_howOften 13 rfl) (by decide) (fun hc => ?_) (fun hc => ?_)
      · first | refine r_iinc (zdk oE_howOften 21 rfl) rfl (zinc _) rfl ?_ | refine r_iinc (zdk oE_howOften 21 rfl) rfl rfl rfl ?_
        refine r_goto (tgt := 4) (zdk oE_howOften 22 rfl) (by decide) ?_
        have e9 : fTm (h.1 18) (h.1 17 6) v (p + 1) = fTm (h.1 18) (h.1 17 6) v p := by simp [fTm, hc]
        rw [e9] at step
        exact step
      · refine r_aload_n (zdk oE_howOften 14 rfl) rfl rfl ?_
        refine r_getr (kf := 0) (zdk oE_howOften 15 rfl) rfl rfl (by decide) lF_E_9 rfl ?_
        refine r_iload_n (zdk oE_howOften 16 rfl) rfl rfl ?_
        refine r_iald (zdk oE_howOften 17 rfl) rfl (vp_in_nI (show p < 7 by omega) (by decide)) ?_
        refine r_iload_n (zdk oE_howOften 18 rfl) rfl rfl ?_
        rw [ep]
        refine r_icmp_ne (tgt := 34) (zdk oE_howOften 19 rfl) (by decide) (fun hc2 => ?_) (fun hc2 => ?_)
        · first | refine r_iinc (zdk oE_howOften 21 rfl) rfl (zinc _) rfl ?_ | refine r_iinc (zdk oE_howOften 21 rfl) rfl rfl rfl ?_
          refine r_goto (tgt := 4) (zdk oE_howOften 22 rfl) (by decide) ?_
          have e9 : fTm (h.1 18) (h.1 17 6) v (p + 1) = fTm (h.1 18) (h.1 17 6) v p := by simp [fTm, hc2]
          rw [e9] at step
          exact step
        · first | refine r_iinc (zdk oE_howOften 20 rfl) rfl (zinc _) rfl ?_ | refine r_iinc (zdk oE_howOften 20 rfl) rfl rfl rfl ?_
          first | refine r_iinc (zdk oE_howOften 21 rfl) rfl (zinc _) rfl ?_ | refine r_iinc (zdk oE_howOften 21 rfl) rfl rfl rfl ?_
          refine r_goto (tgt := 4) (zdk oE_howOften 22 rfl) (by decide) ?_
          have e9 : fTm (h.1 18) (h.1 17 6) v (p + 1) = fTm (h.1 18) (h.1 17 6) v p + 1 := by simp [fTm, fB_1 hc, hc2]
          rw [e9] at step
          exact step
  refine zmet (by decide +kernel) (Nat.le_of_ble_eq_true rfl) ?_
  refine r_iconst (v := 0) (zdk oE_howOften 0 rfl) (by decide) ?_
  refine r_istore_n (zdk oE_howOften 1 rfl) rfl (Nat.le_of_ble_eq_true rfl) rfl ?_
  refine r_iconst (v := 0) (zdk oE_howOften 2 rfl) (by decide) ?_
  refine r_istore_n (zdk oE_howOften 3 rfl) rfl (Nat.le_of_ble_eq_true rfl) rfl ?_
  exact loop 7 0 rfl
theorem spE_from_17 (d : Nat) (h : zH) (a : Nat) (ha : a < 2 ^ 31) : zSP d 0 0 mE_from [.inr (.inr 17), .inl (nI a)] h (zI (if a < 7 ∧ fB (h.1 17 6) a = 1 then h.1 18 a else 0) h) := by
  have ep : (nI a).toNatClampNeg = a := nI_clamp ha
  refine zmet (by decide +kernel) (Nat.le_of_ble_eq_true rfl) ?_
  refine r_iload_n (zdk oE_from 0 rfl) rfl rfl ?_
  refine r_bipush (v := 7) (zdk oE_from 1 rfl) (by decide) ?_
  refine r_icmp_ge (tgt := 21) (zdk oE_from 2 rfl) (by decide) (fun hc => ?_) (fun hc => ?_)
  · have h7 : 7 ≤ a := (nI_leI (by decide) ha).mp hc
    refine r_iconst (v := 0) (zdk oE_from 12 rfl) (by decide) ?_
    refine r_istore_n (zdk oE_from 13 rfl) rfl (Nat.le_of_ble_eq_true rfl) rfl ?_
    refine r_iload_n (zdk oE_from 14 rfl) rfl rfl ?_
    refine r_if_eq (tgt := 36) (zdk oE_from 15 rfl) (by decide) (fun _ => ?_) (fun q9 => absurd ((rfl : (0 : Int32) = 0)) q9)
    refine r_iconst (v := 0) (zdk oE_from 21 rfl) (by decide) ?_
    refine r_iret (zdk oE_from 22 rfl) rfl ?_
    exact zIi (by rw [if_neg (by omega)])
  · have h7 : a < 7 := Nat.not_le.mp (fun q => hc ((nI_leI (by decide) ha).mpr q))
    refine r_aload_n (zdk oE_from 3 rfl) rfl rfl ?_
    refine r_geti (kf := 6) (zdk oE_from 4 rfl) rfl rfl (by decide) lF_E_15 rfl ?_
    refine r_iload_n (zdk oE_from 5 rfl) rfl rfl ?_
    refine r_ishr (zdk oE_from 6 rfl) ?_
    refine r_iconst (v := 1) (zdk oE_from 7 rfl) (by decide) ?_
    refine r_iand (zdk oE_from 8 rfl) ?_
    refine r_tp (y := fB (h.1 17 6) a) rfl ?_
    refine r_if_eq (tgt := 21) (zdk oE_from 9 rfl) (by decide) (fun hc2 => ?_) (fun hc2 => ?_)
    · refine r_iconst (v := 0) (zdk oE_from 12 rfl) (by decide) ?_
      refine r_istore_n (zdk oE_from 13 rfl) rfl (Nat.le_of_ble_eq_true rfl) rfl ?_
      refine r_iload_n (zdk oE_from 14 rfl) rfl rfl ?_
      refine r_if_eq (tgt := 36) (zdk oE_from 15 rfl) (by decide) (fun _ => ?_) (fun q9 => absurd ((rfl : (0 : Int32) = 0)) q9)
      refine r_iconst (v := 0) (zdk oE_from 21 rfl) (by decide) ?_
      refine r_iret (zdk oE_from 22 rfl) rfl ?_
      exact zIi (by rw [if_neg (fun q => by rw [hc2] at q; exact absurd q.2 (by decide))])
    · refine r_iconst (v := 1) (zdk oE_from 10 rfl) (by decide) ?_
      refine r_goto (tgt := 22) (zdk oE_from 11 rfl) (by decide) ?_
      refine r_istore_n (zdk oE_from 13 rfl) rfl (Nat.le_of_ble_eq_true rfl) rfl ?_
      refine r_iload_n (zdk oE_from 14 rfl) rfl rfl ?_
      refine r_if_eq (tgt := 36) (zdk oE_from 15 rfl) (by decide) (fun q9 => absurd q9 ((show ¬ (1 : Int32) = 0 by decide))) (fun _ => ?_)
      refine r_aload_n (zdk oE_from 16 rfl) rfl rfl ?_
      refine r_getr (kf := 0) (zdk oE_from 17 rfl) rfl rfl (by decide) lF_E_9 rfl ?_
      refine r_iload_n (zdk oE_from 18 rfl) rfl rfl ?_
      refine r_iald (zdk oE_from 19 rfl) rfl (vp_in_nI h7 (by decide)) ?_
      refine r_goto (tgt := 37) (zdk oE_from 20 rfl) (by decide) ?_
      refine r_iret (zdk oE_from 22 rfl) rfl ?_
      exact zIi (by rw [if_pos ⟨h7, fB_1 hc2⟩, ep])
def zEars (h : zH) (E : Nat) (s a b c e t : Int32) : zH := zput (zput (zput (zput (zput (zput h E 6 s) E 1 a) E 2 b) E 3 c) E 4 e) E 5 t
theorem zEars_1 {h : zH} {E : Nat} {s a b c e t x : Int32} : zput (zEars h E s a b c e t) E 1 x = zEars h E s x b c e t := by
  unfold zEars
  rw [zput_comm (k := 5) (Or.inr (by decide)), zput_comm (k := 4) (Or.inr (by decide)), zput_comm (k := 3) (Or.inr (by decide)), zput_comm (k := 2) (Or.inr (by decide)), zput_zput]
theorem zEars_2 {h : zH} {E : Nat} {s a b c e t x : Int32} : zput (zEars h E s a b c e t) E 2 x = zEars h E s a x c e t := by
  unfold zEars
  rw [zput_comm (k := 5) (Or.inr (by decide)), zput_comm (k := 4) (Or.inr (by decide)), zput_comm (k := 3) (Or.inr (by decide)), zput_zput]
theorem zEars_3 {h : zH} {E : Nat} {s a b c e t x : Int32} : zput (zEars h E s a b c e t) E 3 x = zEars h E s a b x e t := by
  unfold zEars
  rw [zput_comm (k := 5) (Or.inr (by decide)), zput_comm (k := 4) (Or.inr (by decide)), zput_zput]
theorem zEars_4 {h : zH} {E : Nat} {s a b c e t x : Int32} : zput (zEars h E s a b c e t) E 4 x = zEars h E s a b c x t := by
  unfold zEars
  rw [zput_comm (k := 5) (Or.inr (by decide)), zput_zput]
theorem zEars_5 {h : zH} {E : Nat} {s a b c e t x : Int32} : zput (zEars h E s a b c e t) E 5 x = zEars h E s a b c e x := by
  unfold zEars
  rw [zput_zput]
theorem zEars_o {h : zH} {E p j : Nat} {s a b c e t : Int32} (hp : p ≠ E) : (zEars h E s a b c e t).1 p j = h.1 p j := by
  simp [zEars, zp1, hp]
/-- after p processes: what the class has in its fields -/
def zListen (h : zH) (E : Nat) (m : Nat → Int32) (s : Int32) (p : Nat) : zH := zEars h E s (nI (fHd s p)) (fZ (fMin m s p)) (fZ (fMax m s p)) (fZ (fMost m s 7 p)) (if fMost m s 7 p = -1 then 0 else nI (fTm m s (fMost m s 7 p) 7))
theorem fHd_min {m : Nat → Int32} {s : Int32} (hm : ∀ p, p < 7 → fGood (m p)) : ∀ p, p ≤ 7 → (fHd s p = 0 ↔ fMin m s p = -1) ∧ (fHd s p = 0 ↔ fMax m s p = -1) ∧ (fHd s p = 0 ↔ fMost m s 7 p = -1) ∧ (fMax m s p = -1 ∨ 0 ≤ (fMax m s p).toInt) := by
  intro p
  induction p with
  | zero => intro _; simp [fHd, fMin, fMax, fMost]
  | succ p ih =>
    intro hp
    obtain ⟨i1, i2, i3, i4⟩ := ih (by omega)
    have g := hm p (by omega)
    have gn : ¬ m p = -1 := by
      intro q
      rw [q] at g
      exact absurd g.1 (by decide)
    by_cases hb : fB s p = 1
    · have e1 : fHd s (p + 1) = fHd s p + 1 := by simp [fHd, hb]
      have e2 : ¬ fMin m s (p + 1) = -1 := by
        simp only [fMin, hb, true_and]
        split
        · exact gn
        · rename_i q; exact fun z => q (Or.inl z)
      have e3 : ¬ fMax m s (p + 1) = -1 := by
        simp only [fMax, hb, true_and]
        split
        · exact gn
        · rename_i q; exact fun z => q (Or.inl z)
      have e4 : ¬ fMost m s 7 (p + 1) = -1 := by
        simp only [fMost, hb, true_and]
        split
        · exact gn
        · rename_i q; exact fun z => q (Or.inl z)
      refine ⟨⟨fun z => by omega, fun z => absurd z e2⟩, ⟨fun z => by omega, fun z => absurd z e3⟩, ⟨fun z => by omega, fun z => absurd z e4⟩, Or.inr ?_⟩
      simp only [fMax, hb, true_and]
      split
      · exact g.1
      · rename_i q; exact i4.resolve_left (fun z => q (Or.inl z))
    · have e1 : fHd s (p + 1) = fHd s p := by simp [fHd, hb]
      have e2 : fMin m s (p + 1) = fMin m s p := by simp [fMin, hb]
      have e3 : fMax m s (p + 1) = fMax m s p := by simp [fMax, hb]
      have e4 : fMost m s 7 (p + 1) = fMost m s 7 p := by simp [fMost, hb]
      rw [e1, e2, e3, e4]
      exact ⟨i1, i2, i3, i4⟩
theorem fTm_pos {m : Nat → Int32} {s : Int32} {p n : Nat} (hp : p < n) (hb : fB s p = 1) : 0 < fTm m s (m p) n := by
  induction n with
  | zero => omega
  | succ n ih =>
    simp only [fTm]
    by_cases e : p = n
    · subst e
      rw [if_pos ⟨hb, rfl⟩]
      omega
    · have := ih (by omega)
      omega
theorem zListen_skip {h : zH} {E p : Nat} {m : Nat → Int32} {s : Int32} (hb : ¬ fB s p = 1) : zListen h E m s (p + 1) = zListen h E m s p := by
  simp only [zListen, fHd, fMin, fMax, fMost, hb, false_and, if_false, Nat.add_zero]
theorem spE_listen_10 (d : Nat) (h : zH) (s : Int32) (hm : ∀ p, p < 7 → fGood (h.1 11 p)) : zSP (d + 1) 0 0 mE_listen [.inr (.inr 10), .inl s] h (zU (zListen h 10 (h.1 11) s 7)) := by
  suffices main : ∀ K, K (.inl none) (zListen h 10 (h.1 11) s 7) → zSP (d + 1) 0 0 mE_listen [.inr (.inr 10), .inl s] h K from main _ (zUi rfl)
  intro K hK
  have loop : ∀ k p, p + k = 7 → zMC false (d + 1) 0 0 0 0 mE_listen K 32 [some (.inr (.inr 10)), some (.inl s), some (.inl (nI p)), none, none] [] (zListen h 10 (h.1 11) s p) := by
    intro k
    induction k with
    | zero =>
      intro p hp
      have ep : p = 7 := by omega
      subst ep
      refine r_iload_n (zdk oE_listen 20 rfl) rfl rfl ?_
      refine r_bipush (v := 7) (zdk oE_listen 21 rfl) (by decide) ?_
      refine r_icmp_ge (tgt := 154) (zdk oE_listen 22 rfl) (by decide) (fun _ => ?_) (fun q9 => absurd ((show (7 : Int32) ≤ nI 7 by decide)) q9)
      refine r_vret (zdk oE_listen 83 rfl) rfl ?_
      exact hK
    | succ k ih =>
      intro p hp
      have ep : (nI p).toNatClampNeg = p := nI_clamp (by omega)
      have step := ih (p + 1) (by omega)
      obtain ⟨i1, i2, i3, i4⟩ := fHd_min (s := s) hm p (by omega)
      clear hK
      generalize hm0 : h.1 11 = m at *
      have es : (zListen h 10 m s p).1 10 6 = s := by simp [zListen, zEars, zp1]
      have em : ∀ x a b c e t, (zEars h 10 x a b c e t).1 11 = m := by intro x a b c e t; rw [← hm0]; funext j; exact zEars_o (by decide)
      refine r_iload_n (zdk oE_listen 20 rfl) rfl rfl ?_
      refine r_bipush (v := 7) (zdk oE_listen 21 rfl) (by decide) ?_
      refine r_icmp_ge (tgt := 154) (zdk oE_listen 22 rfl) (by decide) (fun q9 => absurd q9 ((nI_ge (a := p) (b := 7) (by omega) (by decide)))) (fun _ => ?_)
      refine r_aload_n (zdk oE_listen 23 rfl) rfl rfl ?_
      refine r_geti (kf := 6) (zdk oE_listen 24 rfl) rfl rfl (by decide) lF_E_15 rfl ?_
      rw [es]
      refine r_iload_n (zdk oE_listen 25 rfl) rfl rfl ?_
      refine r_ishr (zdk oE_listen 26 rfl) ?_
      refine r_iconst (v := 1) (zdk oE_listen 27 rfl) (by decide) ?_
      refine r_iand (zdk oE_listen 28 rfl) ?_
      refine r_tp (y := fB s p) rfl ?_
      refine r_if_ne (tgt := 52) (zdk oE_listen 29 rfl) (by decide) (fun hc => ?_) (fun hc => ?_)
      · have hb := fB_1 hc
        have hmx : ¬ m p = -1 := by
          intro q
          have := hm p (by omega)
          rw [q] at this
          exact absurd this.1 (by decide)
        refine r_aload_n (zdk oE_listen 31 rfl) rfl rfl ?_
        refine r_getr (kf := 0) (zdk oE_listen 32 rfl) rfl rfl (by decide) lF_E_9 rfl ?_
        refine r_iload_n (zdk oE_listen 33 rfl) rfl rfl ?_
        refine r_iald (zdk oE_listen 34 rfl) rfl (vp_in_nI (show p < 7 by omega) (by decide)) ?_
        have e0 : (zListen h 10 m s p).1 11 (nI p).toNatClampNeg = m p := by rw [ep]; unfold zListen; rw [em]
        rw [e0]
        refine r_istore_n (zdk oE_listen 35 rfl) rfl (Nat.le_of_ble_eq_true rfl) rfl ?_
        refine r_aload_n (zdk oE_listen 36 rfl) rfl rfl ?_
        refine r_aload_n (zdk oE_listen 37 rfl) rfl rfl ?_
        refine r_geti (kf := 1) (zdk oE_listen 38 rfl) rfl rfl (by decide) lF_E_19 rfl ?_
        have e1 : (zListen h 10 m s p).1 10 1 = nI (fHd s p) := by simp [zListen, zEars, zp1]
        have e2 : (zListen h 10 m s p).1 10 2 = fZ (fMin m s p) := by simp [zListen, zEars, zp1]
        rw [e1]
        have hH7 := fHd_le s p
        -- behind the least
        have back : zMC false (d + 1) 0 0 0 0 mE_listen K 79 [some (.inr (.inr 10)), some (.inl s), some (.inl (nI p)), some (.inl (m p)), none] [.inl (fMin m s (p + 1)), .inr (.inr 10)] (zListen h 10 m s p) := by
          refine r_puti (kf := 2) (zdk oE_listen 46 rfl) rfl rfl (by decide) lF_E_22 rfl rfl (by decide +kernel) (Or.inl rfl) ?_
          refine r_aload_n (zdk oE_listen 47 rfl) rfl rfl ?_
          refine r_aload_n (zdk oE_listen 48 rfl) rfl rfl ?_
          refine r_geti (kf := 3) (zdk oE_listen 49 rfl) rfl rfl (by decide) lF_E_25 rfl ?_
          unfold zListen
          rw [zEars_2]
          have e3 : ∀ x a b c e t, (zEars h 10 x a b c e t).1 10 3 = c := by intro x a b c e t; simp [zEars, zp1]
          rw [e3]
          refine r_iload_n (zdk oE_listen 50 rfl) rfl rfl ?_
          refine r_mmax (zdk oE_listen 51 rfl) lM_E_40 lX_maxS lX_math lX_maxC (Nat.le_of_ble_eq_true rfl) rfl ?_
          have eg : (if fZ (fMax m s p) < m p then m p else fZ (fMax m s p)) = fMax m s (p + 1) := by
            have g := hm p (by omega)
            simp only [fMax, hb, true_and, fZ]
            by_cases q : fMax m s p = -1
            · simp only [q, if_true, true_or]
              split
              · rfl
              · rename_i z
                have := g.1
                have z' := Int32.not_lt.mp z
                rw [Int32.le_iff_toInt_le] at z'
                apply Int32.toInt_inj.mp
                simp at z'
                simp
                omega
            · simp only [q, if_false, false_or]
          refine r_tp eg ?_
          refine r_puti (kf := 3) (zdk oE_listen 52 rfl) rfl rfl (by decide) lF_E_25 rfl rfl (by decide +kernel) (Or.inl rfl) ?_
          refine r_aload_n (zdk oE_listen 53 rfl) rfl rfl ?_
          refine r_dup (zdk oE_listen 54 rfl) rfl ?_
          refine r_geti (kf := 1) (zdk oE_listen 55 rfl) rfl rfl (by decide) lF_E_19 rfl ?_
          rw [zEars_3]
          have e1' : ∀ x a b c e t, (zEars h 10 x a b c e t).1 10 1 = a := by intro x a b c e t; simp [zEars, zp1]
          rw [e1']
          refine r_iconst (v := 1) (zdk oE_listen 56 rfl) (by decide) ?_
          refine r_iadd (zdk oE_listen 57 rfl) ?_
          refine r_tp (nI_1 (fHd s p)) ?_
          refine r_puti (kf := 1) (zdk oE_listen 58 rfl) rfl rfl (by decide) lF_E_19 rfl rfl (by decide +kernel) (Or.inl rfl) ?_
          refine r_aload_n (zdk oE_listen 59 rfl) rfl rfl ?_
          refine r_iload_n (zdk oE_listen 60 rfl) rfl rfl ?_
          rw [zEars_1]
          refine r_callV1i (M' := mE_howOften) (zdk oE_listen 61 rfl) lM_E_43 vE_howOften rfl rfl (Nat.le_of_ble_eq_true rfl) rfl (spE_howOften_10 d _ (m p)) ?_
          have e6 : ∀ x a b c e t, (zEars h 10 x a b c e t).1 10 6 = x := by intro x a b c e t; simp [zEars, zp1]
          rw [em, e6]
          refine r_istore (zdk oE_listen 62 rfl) (Nat.le_of_ble_eq_true rfl) rfl ?_
          refine r_iload (zdk oE_listen 63 rfl) rfl ?_
          refine r_aload_n (zdk oE_listen 64 rfl) rfl rfl ?_
          refine r_geti (kf := 5) (zdk oE_listen 65 rfl) rfl rfl (by decide) lF_E_31 rfl ?_
          have e5 : ∀ x a b c e t, (zEars h 10 x a b c e t).1 10 5 = t := by intro x a b c e t; simp [zEars, zp1]
          have e4 : ∀ x a b c e t, (zEars h 10 x a b c e t).1 10 4 = e := by intro x a b c e t; simp [zEars, zp1]
          rw [e5]
          have hf7 := fTm_le m s (m p) 7
          have hg7 := fTm_le m s (fMost m s 7 p) 7
          have hpos := fTm_pos (m := m) (n := 7) (show p < 7 by omega) hb
          have hHd : fHd s (p + 1) = fHd s p + 1 := by simp [fHd, hb]
          have hmin : fZ (fMin m s (p + 1)) = fMin m s (p + 1) := by
            have := (fHd_min (s := s) hm (p + 1) (by omega)).1
            unfold fZ
            rw [if_neg (fun z => by have := this.mpr z; omega)]
          have hmax : fZ (fMax m s (p + 1)) = fMax m s (p + 1) := by
            have := (fHd_min (s := s) hm (p + 1) (by omega)).2.1
            unfold fZ
            rw [if_neg (fun z => by have := this.mpr z; omega)]
          have yes : (fMost m s 7 p = -1 ∨ fTm m s (fMost m s 7 p) 7 < fTm m s (m p) 7 ∨ fTm m s (m p) 7 = fTm m s (fMost m s 7 p) 7 ∧ m p < fMost m s 7 p) → zMC false (d + 1) 0 0 0 0 mE_listen K 137 [some (.inr (.inr 10)), some (.inl s), some (.inl (nI p)), some (.inl (m p)), some (.inl (nI (fTm m s (m p) 7)))] [] (zEars h 10 s (nI (fHd s p + 1)) (fMin m s (p + 1)) (fMax m s (p + 1)) (fZ (fMost m s 7 p)) (if fMost m s 7 p = -1 then 0 else nI (fTm m s (fMost m s 7 p) 7))) := by
            intro hy
            refine r_aload_n (zdk oE_listen 75 rfl) rfl rfl ?_
            refine r_iload_n (zdk oE_listen 76 rfl) rfl rfl ?_
            refine r_puti (kf := 4) (zdk oE_listen 77 rfl) rfl rfl (by decide) lF_E_28 rfl rfl (by decide +kernel) (Or.inl rfl) ?_
            refine r_aload_n (zdk oE_listen 78 rfl) rfl rfl ?_
            refine r_iload (zdk oE_listen 79 rfl) rfl ?_
            refine r_puti (kf := 5) (zdk oE_listen 80 rfl) rfl rfl (by decide) lF_E_31 rfl rfl (by decide +kernel) (Or.inl rfl) ?_
            first | refine r_iinc (zdk oE_listen 81 rfl) rfl (zinc _) rfl ?_ | refine r_iinc (zdk oE_listen 81 rfl) rfl rfl rfl ?_
            refine r_goto (tgt := 32) (zdk oE_listen 82 rfl) (by decide) ?_
            rw [zEars_4, zEars_5]
            refine r_mask [true, true, true, false, false] rfl rfl ?_
            have eM : fMost m s 7 (p + 1) = m p := by simp only [fMost]; rw [if_pos ⟨hb, hy⟩]
            unfold zListen at step
            rw [hHd, hmin, hmax, eM, if_neg hmx, show fZ (m p) = m p from if_neg hmx] at step
            exact step
          have no : ¬ (fMost m s 7 p = -1 ∨ fTm m s (fMost m s 7 p) 7 < fTm m s (m p) 7 ∨ fTm m s (m p) 7 = fTm m s (fMost m s 7 p) 7 ∧ m p < fMost m s 7 p) → zMC false (d + 1) 0 0 0 0 mE_listen K 148 [some (.inr (.inr 10)), some (.inl s), some (.inl (nI p)), some (.inl (m p)), some (.inl (nI (fTm m s (m p) 7)))] [] (zEars h 10 s (nI (fHd s p + 1)) (fMin m s (p + 1)) (fMax m s (p + 1)) (fZ (fMost m s 7 p)) (if fMost m s 7 p = -1 then 0 else nI (fTm m s (fMost m s 7 p) 7))) := by
            intro hy
            first | refine r_iinc (zdk oE_listen 81 rfl) rfl (zinc _) rfl ?_ | refine r_iinc (zdk oE_listen 81 rfl) rfl rfl rfl ?_
            refine r_goto (tgt := 32) (zdk oE_listen 82 rfl) (by decide) ?_
            refine r_mask [true, true, true, false, false] rfl rfl ?_
            have eM : fMost m s 7 (p + 1) = fMost m s 7 p := by simp only [fMost]; rw [if_neg (fun z => hy z.2)]
            unfold zListen at step
            rw [hHd, hmin, hmax, eM] at step
            exact step
          by_cases hn : fMost m s 7 p = -1
          · have hlt : (0 : Int32) < nI (fTm m s (m p) 7) := nI_lt (a := 0) hpos (by omega)
            have y1 := yes (Or.inl hn)
            rw [if_pos hn] at y1 ⊢
            refine r_icmp_gt (tgt := 137) (zdk oE_listen 66 rfl) (by decide) (fun _ => ?_) (fun q9 => absurd (hlt) q9)
            exact y1
          · have y1 := yes
            have n1 := no
            rw [if_neg hn] at y1 n1 ⊢
            have ez : fZ (fMost m s 7 p) = fMost m s 7 p := if_neg hn
            rw [ez] at y1 n1 ⊢
            refine r_icmp_gt (tgt := 137) (zdk oE_listen 66 rfl) (by decide) (fun hc2 => ?_) (fun hc2 => ?_)
            · exact y1 (Or.inr (Or.inl ((nI_ltI (by omega) (by omega)).mp hc2)))
            · have hc2' : fTm m s (m p) 7 ≤ fTm m s (fMost m s 7 p) 7 := Nat.not_lt.mp (fun z => hc2 ((nI_ltI (by omega) (by omega)).mpr z))
              refine r_iload (zdk oE_listen 67 rfl) rfl ?_
              refine r_aload_n (zdk oE_listen 68 rfl) rfl rfl ?_
              refine r_geti (kf := 5) (zdk oE_listen 69 rfl) rfl rfl (by decide) lF_E_31 rfl ?_
              rw [e5]
              refine r_icmp_ne (tgt := 148) (zdk oE_listen 70 rfl) (by decide) (fun hc3 => ?_) (fun hc3 => ?_)
              · exact n1 (fun z => by
                  rcases z with z | z | z
                  · exact hn z
                  · omega
                  · exact hc3 (by rw [z.1]))
              · have hc3' := (nI_eq (by omega) (by omega)).mp hc3
                refine r_iload_n (zdk oE_listen 71 rfl) rfl rfl ?_
                refine r_aload_n (zdk oE_listen 72 rfl) rfl rfl ?_
                refine r_geti (kf := 4) (zdk oE_listen 73 rfl) rfl rfl (by decide) lF_E_28 rfl ?_
                rw [e4]
                refine r_icmp_ge (tgt := 148) (zdk oE_listen 74 rfl) (by decide) (fun hc4 => ?_) (fun hc4 => ?_)
                · exact n1 (fun z => by
                    rcases z with z | z | z
                    · exact hn z
                    · omega
                    · exact Int32.not_lt.mpr hc4 z.2)
                · exact y1 (Or.inr (Or.inr ⟨hc3', Int32.not_le.mp hc4⟩))
        refine r_if_ne (tgt := 71) (zdk oE_listen 39 rfl) (by decide) (fun hz => ?_) (fun hz => ?_)
        · have hmn : ¬ fMin m s p = -1 := fun z => hz (by rw [i1.mpr z]; rfl)
          refine r_aload_n (zdk oE_listen 42 rfl) rfl rfl ?_
          refine r_geti (kf := 2) (zdk oE_listen 43 rfl) rfl rfl (by decide) lF_E_22 rfl ?_
          rw [e2]
          refine r_iload_n (zdk oE_listen 44 rfl) rfl rfl ?_
          refine r_mmin (zdk oE_listen 45 rfl) lM_E_34 lX_minS lX_math lX_minC (Nat.le_of_ble_eq_true rfl) rfl ?_
          have eg : (if m p < fZ (fMin m s p) then m p else fZ (fMin m s p)) = fMin m s (p + 1) := by
            simp only [fMin, hb, true_and, fZ, hmn, if_false, false_or]
          refine r_tp eg ?_
          exact back
        · have hmn : fMin m s p = -1 := i1.mp ((nI_eq (by omega) (by decide)).mp hz)
          refine r_iload_n (zdk oE_listen 40 rfl) rfl rfl ?_
          refine r_goto (tgt := 79) (zdk oE_listen 41 rfl) (by decide) ?_
          refine r_tp (y := fMin m s (p + 1)) (by simp only [fMin, hb, hmn, true_and, true_or, if_true]) ?_
          exact back
      · refine r_goto (tgt := 148) (zdk oE_listen 30 rfl) (by decide) ?_
        first | refine r_iinc (zdk oE_listen 81 rfl) rfl (zinc _) rfl ?_ | refine r_iinc (zdk oE_listen 81 rfl) rfl rfl rfl ?_
        refine r_goto (tgt := 32) (zdk oE_listen 82 rfl) (by decide) ?_
        rw [zListen_skip (p := p) (by rw [hc]; decide)] at step
        exact step
  refine zmet (by decide +kernel) (Nat.le_of_ble_eq_true rfl) ?_
  refine r_aload_n (zdk oE_listen 0 rfl) rfl rfl ?_
  refine r_iload_n (zdk oE_listen 1 rfl) rfl rfl ?_
  refine r_puti (kf := 6) (zdk oE_listen 2 rfl) rfl rfl (by decide) lF_E_15 rfl rfl (by decide +kernel) (Or.inl rfl) ?_
  refine r_aload_n (zdk oE_listen 3 rfl) rfl rfl ?_
  refine r_iconst (v := 0) (zdk oE_listen 4 rfl) (by decide) ?_
  refine r_puti (kf := 1) (zdk oE_listen 5 rfl) rfl rfl (by decide) lF_E_19 rfl rfl (by decide +kernel) (Or.inl rfl) ?_
  refine r_aload_n (zdk oE_listen 6 rfl) rfl rfl ?_
  refine r_iconst (v := 0) (zdk oE_listen 7 rfl) (by decide) ?_
  refine r_puti (kf := 2) (zdk oE_listen 8 rfl) rfl rfl (by decide) lF_E_22 rfl rfl (by decide +kernel) (Or.inl rfl) ?_
  refine r_aload_n (zdk oE_listen 9 rfl) rfl rfl ?_
  refine r_iconst (v := 0) (zdk oE_listen 10 rfl) (by decide) ?_
  refine r_puti (kf := 3) (zdk oE_listen 11 rfl) rfl rfl (by decide) lF_E_25 rfl rfl (by decide +kernel) (Or.inl rfl) ?_
  refine r_aload_n (zdk oE_listen 12 rfl) rfl rfl ?_
  refine r_iconst (v := 0) (zdk oE_listen 13 rfl) (by decide) ?_
  refine r_puti (kf := 4) (zdk oE_listen 14 rfl) rfl rfl (by decide) lF_E_28 rfl rfl (by decide +kernel) (Or.inl rfl) ?_
  refine r_aload_n (zdk oE_listen 15 rfl) rfl rfl ?_
  refine r_iconst (v := 0) (zdk oE_listen 16 rfl) (by decide) ?_
  refine r_puti (kf := 5) (zdk oE_listen 17 rfl) rfl rfl (by decide) lF_E_31 rfl rfl (by decide +kernel) (Or.inl rfl) ?_
  refine r_iconst (v := 0) (zdk oE_listen 18 rfl) (by decide) ?_
  refine r_istore_n (zdk oE_listen 19 rfl) rfl (Nat.le_of_ble_eq_true rfl) rfl ?_
  have e0 : zListen h 10 (h.1 11) s 0 = zEars h 10 s 0 0 0 0 0 := by simp [zListen, fHd, fMin, fMax, fMost, fZ, nI_0]
  have l0 := loop 7 0 rfl
  rw [e0] at l0
  exact l0
theorem spE_listen_17 (d : Nat) (h : zH) (s : Int32) (hm : ∀ p, p < 7 → fGood (h.1 18 p)) : zSP (d + 1) 0 0 mE_listen [.inr (.inr 17), .inl s] h (zU (zListen h 17 (h.1 18) s 7)) := by
  suffices main : ∀ K, K (.inl none) (zListen h 17 (h.1 18) s 7) → zSP (d + 1) 0 0 mE_listen [.inr (.inr 17), .inl s] h K from main _ (zUi rfl)
  intro K hK
  have loop : ∀ k p, p + k = 7 → zMC false (d + 1) 0 0 0 0 mE_listen K 32 [some (.inr (.inr 17)), some (.inl s), some (.inl (nI p)), none, none] [] (zListen h 17 (h.1 18) s p) := by
    intro k
    induction k with
    | zero =>
      intro p hp
      have ep : p = 7 := by omega
      subst ep
      refine r_iload_n (zdk oE_listen 20 rfl) rfl rfl ?_
      refine r_bipush (v := 7) (zdk oE_listen 21 rfl) (by decide) ?_
      refine r_icmp_ge (tgt := 154) (zdk oE_listen 22 rfl) (by decide) (fun _ => ?_) (fun q9 => absurd ((show (7 : Int32) ≤ nI 7 by decide)) q9)
      refine r_vret (zdk oE_listen 83 rfl) rfl ?_
      exact hK
    | succ k ih =>
      intro p hp
      have ep : (nI p).toNatClampNeg = p := nI_clamp (by omega)
      have step := ih (p + 1) (by omega)
      obtain ⟨i1, i2, i3, i4⟩ := fHd_min (s := s) hm p (by omega)
      clear hK
      generalize hm0 : h.1 18 = m at *
      have es : (zListen h 17 m s p).1 17 6 = s := by simp [zListen, zEars, zp1]
      have em : ∀ x a b c e t, (zEars h 17 x a b c e t).1 18 = m := by intro x a b c e t; rw [← hm0]; funext j; exact zEars_o (by decide)
      refine r_iload_n (zdk oE_listen 20 rfl) rfl rfl ?_
      refine r_bipush (v := 7) (zdk oE_listen 21 rfl) (by decide) ?_
      refine r_icmp_ge (tgt := 154) (zdk oE_listen 22 rfl) (by decide) (fun q9 => absurd q9 ((nI_ge (a := p) (b := 7) (by omega) (by decide)))) (fun _ => ?_)
      refine r_aload_n (zdk oE_listen 23 rfl) rfl rfl ?_
      refine r_geti (kf := 6) (zdk oE_listen 24 rfl) rfl rfl (by decide) lF_E_15 rfl ?_
      rw [es]
      refine r_iload_n (zdk oE_listen 25 rfl) rfl rfl ?_
      refine r_ishr (zdk oE_listen 26 rfl) ?_
      refine r_iconst (v := 1) (zdk oE_listen 27 rfl) (by decide) ?_
      refine r_iand (zdk oE_listen 28 rfl) ?_
      refine r_tp (y := fB s p) rfl ?_
      refine r_if_ne (tgt := 52) (zdk oE_listen 29 rfl) (by decide) (fun hc => ?_) (fun hc => ?_)
      · have hb := fB_1 hc
        have hmx : ¬ m p = -1 := by
          intro q
          have := hm p (by omega)
          rw [q] at this
          exact absurd this.1 (by decide)
        refine r_aload_n (zdk oE_listen 31 rfl) rfl rfl ?_
        refine r_getr (kf := 0) (zdk oE_listen 32 rfl) rfl rfl (by decide) lF_E_9 rfl ?_
        refine r_iload_n (zdk oE_listen 33 rfl) rfl rfl ?_
        refine r_iald (zdk oE_listen 34 rfl) rfl (vp_in_nI (show p < 7 by omega) (by decide)) ?_
        have e0 : (zListen h 17 m s p).1 18 (nI p).toNatClampNeg = m p := by rw [ep]; unfold zListen; rw [em]
        rw [e0]
        refine r_istore_n (zdk oE_listen 35 rfl) rfl (Nat.le_of_ble_eq_true rfl) rfl ?_
        refine r_aload_n (zdk oE_listen 36 rfl) rfl rfl ?_
        refine r_aload_n (zdk oE_listen 37 rfl) rfl rfl ?_
        refine r_geti (kf := 1) (zdk oE_listen 38 rfl) rfl rfl (by decide) lF_E_19 rfl ?_
        have e1 : (zListen h 17 m s p).1 17 1 = nI (fHd s p) := by simp [zListen, zEars, zp1]
        have e2 : (zListen h 17 m s p).1 17 2 = fZ (fMin m s p) := by simp [zListen, zEars, zp1]
        rw [e1]
        have hH7 := fHd_le s p
        -- behind the least
        have back : zMC false (d + 1) 0 0 0 0 mE_listen K 79 [some (.inr (.inr 17)), some (.inl s), some (.inl (nI p)), some (.inl (m p)), none] [.inl (fMin m s (p + 1)), .inr (.inr 17)] (zListen h 17 m s p) := by
          refine r_puti (kf := 2) (zdk oE_listen 46 rfl) rfl rfl (by decide) lF_E_22 rfl rfl (by decide +kernel) (Or.inl rfl) ?_
          refine r_aload_n (zdk oE_listen 47 rfl) rfl rfl ?_
          refine r_aload_n (zdk oE_listen 48 rfl) rfl rfl ?_
          refine r_geti (kf := 3) (zdk oE_listen 49 rfl) rfl rfl (by decide) lF_E_25 rfl ?_
          unfold zListen
          rw [zEars_2]
          have e3 : ∀ x a b c e t, (zEars h 17 x a b c e t).1 17 3 = c := by intro x a b c e t; simp [zEars, zp1]
          rw [e3]
          refine r_iload_n (zdk oE_listen 50 rfl) rfl rfl ?_
          refine r_mmax (zdk oE_listen 51 rfl) lM_E_40 lX_maxS lX_math lX_maxC (Nat.le_of_ble_eq_true rfl) rfl ?_
          have eg : (if fZ (fMax m s p) < m p then m p else fZ (fMax m s p)) = fMax m s (p + 1) := by
            have g := hm p (by omega)
            simp only [fMax, hb, true_and, fZ]
            by_cases q : fMax m s p = -1
            · simp only [q, if_true, true_or]
              split
              · rfl
              · rename_i z
                have := g.1
                have z' := Int32.not_lt.mp z
                rw [Int32.le_iff_toInt_le] at z'
                apply Int32.toInt_inj.mp
                simp at z'
                simp
                omega
            · simp only [q, if_false, false_or]
          refine r_tp eg ?_
          refine r_puti (kf := 3) (zdk oE_listen 52 rfl) rfl rfl (by decide) lF_E_25 rfl rfl (by decide +kernel) (Or.inl rfl) ?_
          refine r_aload_n (zdk oE_listen 53 rfl) rfl rfl ?_
          refine r_dup (zdk oE_listen 54 rfl) rfl ?_
          refine r_geti (kf := 1) (zdk oE_listen 55 rfl) rfl rfl (by decide) lF_E_19 rfl ?_
          rw [zEars_3]
          have e1' : ∀ x a b c e t, (zEars h 17 x a b c e t).1 17 1 = a := by intro x a b c e t; simp [zEars, zp1]
          rw [e1']
          refine r_iconst (v := 1) (zdk oE_listen 56 rfl) (by decide) ?_
          refine r_iadd (zdk oE_listen 57 rfl) ?_
          refine r_tp (nI_1 (fHd s p)) ?_
          refine r_puti (kf := 1) (zdk oE_listen 58 rfl) rfl rfl (by decide) lF_E_19 rfl rfl (by decide +kernel) (Or.inl rfl) ?_
          refine r_aload_n (zdk oE_listen 59 rfl) rfl rfl ?_
          refine r_iload_n (zdk oE_listen 60 rfl) rfl rfl ?_
          rw [zEars_1]
          refine r_callV1i (M' := mE_howOften) (zdk oE_listen 61 rfl) lM_E_43 vE_howOften rfl rfl (Nat.le_of_ble_eq_true rfl) rfl (spE_howOften_17 d _ (m p)) ?_
          have e6 : ∀ x a b c e t, (zEars h 17 x a b c e t).1 17 6 = x := by intro x a b c e t; simp [zEars, zp1]
          rw [em, e6]
          refine r_istore (zdk oE_listen 62 rfl) (Nat.le_of_ble_eq_true rfl) rfl ?_
          refine r_iload (zdk oE_listen 63 rfl) rfl ?_
          refine r_aload_n (zdk oE_listen 64 rfl) rfl rfl ?_
          refine r_geti (kf := 5) (zdk oE_listen 65 rfl) rfl rfl (by decide) lF_E_31 rfl ?_
          have e5 : ∀ x a b c e t, (zEars h 17 x a b c e t).1 17 5 = t := by intro x a b c e t; simp [zEars, zp1]
          have e4 : ∀ x a b c e t, (zEars h 17 x a b c e t).1 17 4 = e := by intro x a b c e t; simp [zEars, zp1]
          rw [e5]
          have hf7 := fTm_le m s (m p) 7
          have hg7 := fTm_le m s (fMost m s 7 p) 7
          have hpos := fTm_pos (m := m) (n := 7) (show p < 7 by omega) hb
          have hHd : fHd s (p + 1) = fHd s p + 1 := by simp [fHd, hb]
          have hmin : fZ (fMin m s (p + 1)) = fMin m s (p + 1) := by
            have := (fHd_min (s := s) hm (p + 1) (by omega)).1
            unfold fZ
            rw [if_neg (fun z => by have := this.mpr z; omega)]
          have hmax : fZ (fMax m s (p + 1)) = fMax m s (p + 1) := by
            have := (fHd_min (s := s) hm (p + 1) (by omega)).2.1
            unfold fZ
            rw [if_neg (fun z => by have := this.mpr z; omega)]
          have yes : (fMost m s 7 p = -1 ∨ fTm m s (fMost m s 7 p) 7 < fTm m s (m p) 7 ∨ fTm m s (m p) 7 = fTm m s (fMost m s 7 p) 7 ∧ m p < fMost m s 7 p) → zMC false (d + 1) 0 0 0 0 mE_listen K 137 [some (.inr (.inr 17)), some (.inl s), some (.inl (nI p)), some (.inl (m p)), some (.inl (nI (fTm m s (m p) 7)))] [] (zEars h 17 s (nI (fHd s p + 1)) (fMin m s (p + 1)) (fMax m s (p + 1)) (fZ (fMost m s 7 p)) (if fMost m s 7 p = -1 then 0 else nI (fTm m s (fMost m s 7 p) 7))) := by
            intro hy
            refine r_aload_n (zdk oE_listen 75 rfl) rfl rfl ?_
            refine r_iload_n (zdk oE_listen 76 rfl) rfl rfl ?_
            refine r_puti (kf := 4) (zdk oE_listen 77 rfl) rfl rfl (by decide) lF_E_28 rfl rfl (by decide +kernel) (Or.inl rfl) ?_
            refine r_aload_n (zdk oE_listen 78 rfl) rfl rfl ?_
            refine r_iload (zdk oE_listen 79 rfl) rfl ?_
            refine r_puti (kf := 5) (zdk oE_listen 80 rfl) rfl rfl (by decide) lF_E_31 rfl rfl (by decide +kernel) (Or.inl rfl) ?_
            first | refine r_iinc (zdk oE_listen 81 rfl) rfl (zinc _) rfl ?_ | refine r_iinc (zdk oE_listen 81 rfl) rfl rfl rfl ?_
            refine r_goto (tgt := 32) (zdk oE_listen 82 rfl) (by decide) ?_
            rw [zEars_4, zEars_5]
            refine r_mask [true, true, true, false, false] rfl rfl ?_
            have eM : fMost m s 7 (p + 1) = m p := by simp only [fMost]; rw [if_pos ⟨hb, hy⟩]
            unfold zListen at step
            rw [hHd, hmin, hmax, eM, if_neg hmx, show fZ (m p) = m p from if_neg hmx] at step
            exact step
          have no : ¬ (fMost m s 7 p = -1 ∨ fTm m s (fMost m s 7 p) 7 < fTm m s (m p) 7 ∨ fTm m s (m p) 7 = fTm m s (fMost m s 7 p) 7 ∧ m p < fMost m s 7 p) → zMC false (d + 1) 0 0 0 0 mE_listen K 148 [some (.inr (.inr 17)), some (.inl s), some (.inl (nI p)), some (.inl (m p)), some (.inl (nI (fTm m s (m p) 7)))] [] (zEars h 17 s (nI (fHd s p + 1)) (fMin m s (p + 1)) (fMax m s (p + 1)) (fZ (fMost m s 7 p)) (if fMost m s 7 p = -1 then 0 else nI (fTm m s (fMost m s 7 p) 7))) := by
            intro hy
            first | refine r_iinc (zdk oE_listen 81 rfl) rfl (zinc _) rfl ?_ | refine r_iinc (zdk oE_listen 81 rfl) rfl rfl rfl ?_
            refine r_goto (tgt := 32) (zdk oE_listen 82 rfl) (by decide) ?_
            refine r_mask [true, true, true, false, false] rfl rfl ?_
            have eM : fMost m s 7 (p + 1) = fMost m s 7 p := by simp only [fMost]; rw [if_neg (fun z => hy z.2)]
            unfold zListen at step
            rw [hHd, hmin, hmax, eM] at step
            exact step
          by_cases hn : fMost m s 7 p = -1
          · have hlt : (0 : Int32) < nI (fTm m s (m p) 7) := nI_lt (a := 0) hpos (by omega)
            have y1 := yes (Or.inl hn)
            rw [if_pos hn] at y1 ⊢
            refine r_icmp_gt (tgt := 137) (zdk oE_listen 66 rfl) (by decide) (fun _ => ?_) (fun q9 => absurd (hlt) q9)
            exact y1
          · have y1 := yes
            have n1 := no
            rw [if_neg hn] at y1 n1 ⊢
            have ez : fZ (fMost m s 7 p) = fMost m s 7 p := if_neg hn
            rw [ez] at y1 n1 ⊢
            refine r_icmp_gt (tgt := 137) (zdk oE_listen 66 rfl) (by decide) (fun hc2 => ?_) (fun hc2 => ?_)
            · exact y1 (Or.inr (Or.inl ((nI_ltI (by omega) (by omega)).mp hc2)))
            · have hc2' : fTm m s (m p) 7 ≤ fTm m s (fMost m s 7 p) 7 := Nat.not_lt.mp (fun z => hc2 ((nI_ltI (by omega) (by omega)).mpr z))
              refine r_iload (zdk oE_listen 67 rfl) rfl ?_
              refine r_aload_n (zdk oE_listen 68 rfl) rfl rfl ?_
              refine r_geti (kf := 5) (zdk oE_listen 69 rfl) rfl rfl (by decide) lF_E_31 rfl ?_
              rw [e5]
              refine r_icmp_ne (tgt := 148) (zdk oE_listen 70 rfl) (by decide) (fun hc3 => ?_) (fun hc3 => ?_)
              · exact n1 (fun z => by
                  rcases z with z | z | z
                  · exact hn z
                  · omega
                  · exact hc3 (by rw [z.1]))
              · have hc3' := (nI_eq (by omega) (by omega)).mp hc3
                refine r_iload_n (zdk oE_listen 71 rfl) rfl rfl ?_
                refine r_aload_n (zdk oE_listen 72 rfl) rfl rfl ?_
                refine r_geti (kf := 4) (zdk oE_listen 73 rfl) rfl rfl (by decide) lF_E_28 rfl ?_
                rw [e4]
                refine r_icmp_ge (tgt := 148) (zdk oE_listen 74 rfl) (by decide) (fun hc4 => ?_) (fun hc4 => ?_)
                · exact n1 (fun z => by
                    rcases z with z | z | z
                    · exact hn z
                    · omega
                    · exact Int32.not_lt.mpr hc4 z.2)
                · exact y1 (Or.inr (Or.inr ⟨hc3', Int32.not_le.mp hc4⟩))
        refine r_if_ne (tgt := 71) (zdk oE_listen 39 rfl) (by decide) (fun hz => ?_) (fun hz => ?_)
        · have hmn : ¬ fMin m s p = -1 := fun z => hz (by rw [i1.mpr z]; rfl)
          refine r_aload_n (zdk oE_listen 42 rfl) rfl rfl ?_
          refine r_geti (kf := 2) (zdk oE_listen 43 rfl) rfl rfl (by decide) lF_E_22 rfl ?_
          rw [e2]
          refine r_iload_n (zdk oE_listen 44 rfl) rfl rfl ?_
          refine r_mmin (zdk oE_listen 45 rfl) lM_E_34 lX_minS lX_math lX_minC (Nat.le_of_ble_eq_true rfl) rfl ?_
          have eg : (if m p < fZ (fMin m s p) then m p else fZ (fMin m s p)) = fMin m s (p + 1) := by
            simp only [fMin, hb, true_and, fZ, hmn, if_false, false_or]
          refine r_tp eg ?_
          exact back
        · have hmn : fMin m s p = -1 := i1.mp ((nI_eq (by omega) (by decide)).mp hz)
          refine r_iload_n (zdk oE_listen 40 rfl) rfl rfl ?_
          refine r_goto (tgt := 79) (zdk oE_listen 41 rfl) (by decide) ?_
          refine r_tp (y := fMin m s (p + 1)) (by simp only [fMin, hb, hmn, true_and, true_or, if_true]) ?_
          exact back
      · refine r_goto (tgt := 148) (zdk oE_listen 30 rfl) (by decide) ?_
        first | refine r_iinc (zdk oE_listen 81 rfl) rfl (zinc _) rfl ?_ | refine r_iinc (zdk oE_listen 81 rfl) rfl rfl rfl ?_
        refine r_goto (tgt := 32) (zdk oE_listen 82 rfl) (by decide) ?_
        rw [zListen_skip (p := p) (by rw [hc]; decide)] at step
        exact step
  refine zmet (by decide +kernel) (Nat.le_of_ble_eq_true rfl) ?_
  refine r_aload_n (zdk oE_listen 0 rfl) rfl rfl ?_
  refine r_iload_n (zdk oE_listen 1 rfl) rfl rfl ?_
  refine r_puti (kf := 6) (zdk oE_listen 2 rfl) rfl rfl (by decide) lF_E_15 rfl rfl (by decide +kernel) (Or.inl rfl) ?_
  refine r_aload_n (zdk oE_listen 3 rfl) rfl rfl ?_
  refine r_iconst (v := 0) (zdk oE_listen 4 rfl) (by decide) ?_
  refine r_puti (kf := 1) (zdk oE_listen 5 rfl) rfl rfl (by decide) lF_E_19 rfl rfl (by decide +kernel) (Or.inl rfl) ?_
  refine r_aload_n (zdk oE_listen 6 rfl) rfl rfl ?_
  refine r_iconst (v := 0) (zdk oE_listen 7 rfl) (by decide) ?_
  refine r_puti (kf := 2) (zdk oE_listen 8 rfl) rfl rfl (by decide) lF_E_22 rfl rfl (by decide +kernel) (Or.inl rfl) ?_
  refine r_aload_n (zdk oE_listen 9 rfl) rfl rfl ?_
  refine r_iconst (v := 0) (zdk oE_listen 10 rfl) (by decide) ?_
  refine r_puti (kf := 3) (zdk oE_listen 11 rfl) rfl rfl (by decide) lF_E_25 rfl rfl (by decide +kernel) (Or.inl rfl) ?_
  refine r_aload_n (zdk oE_listen 12 rfl) rfl rfl ?_
  refine r_iconst (v := 0) (zdk oE_listen 13 rfl) (by decide) ?_
  refine r_puti (kf := 4) (zdk oE_listen 14 rfl) rfl rfl (by decide) lF_E_28 rfl rfl (by decide +kernel) (Or.inl rfl) ?_
  refine r_aload_n (zdk oE_listen 15 rfl) rfl rfl ?_
  refine r_iconst (v := 0) (zdk oE_listen 16 rfl) (by decide) ?_
  refine r_puti (kf := 5) (zdk oE_listen 17 rfl) rfl rfl (by decide) lF_E_31 rfl rfl (by decide +kernel) (Or.inl rfl) ?_
  refine r_iconst (v := 0) (zdk oE_listen 18 rfl) (by decide) ?_
  refine r_istore_n (zdk oE_listen 19 rfl) rfl (Nat.le_of_ble_eq_true rfl) rfl ?_
  have e0 : zListen h 17 (h.1 18) s 0 = zEars h 17 s 0 0 0 0 0 := by simp [zListen, fHd, fMin, fMax, fMost, fZ, nI_0]
  have l0 := loop 7 0 rfl
  rw [e0] at l0
  exact l0
