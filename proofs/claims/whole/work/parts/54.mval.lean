theorem fMost_heard {m : Nat → Int32} {s : Int32} {N : Nat} : ∀ n, (∀ i, i < n → fGood (m i)) → 0 < fHd s n → ¬ fMost m s N n = -1 := by
  intro n
  induction n with
  | zero => intro _ h; simp [fHd] at h
  | succ n ih =>
    intro hg h
    have g := hg n (by omega)
    have gn : ¬ m n = -1 := by
      intro q
      rw [q] at g
      exact absurd g.1 (by decide)
    simp only [fMost]
    split
    · exact gn
    · rename_i q
      by_cases hb : fB s n = 1
      · exact fun z => q ⟨hb, Or.inl z⟩
      · have : fHd s (n + 1) = fHd s n := by simp [fHd, hb]
        rw [this] at h
        exact ih (fun i hi => hg i (by omega)) h
theorem fMost_0 {m : Nat → Int32} {N : Nat} : ∀ n, n ≤ 7 → fMost m 0 N n = -1 := by
  intro n
  induction n with
  | zero => intro _; rfl
  | succ n ih =>
    intro hn
    have : fB 0 n = 0 := fB_out (k := 0) (n := 0) (by decide) (by omega) (by omega)
    simp only [fMost]
    rw [if_neg (by rw [this]; simp), ih (by omega)]
theorem fHd_pos {k np : Nat} (hk : k < 2 ^ np) (h0 : ¬ k = 0) (h7 : np ≤ 7) : 0 < fHd (nI k) np := by
  have key : ∀ np : Fin 8, ∀ k : Fin 128, k.val < 2 ^ np.val → k.val ≠ 0 → 0 < fHd (nI k.val) np.val := by decide +kernel
  have := pow7 h7
  exact key ⟨np, by omega⟩ ⟨k, by omega⟩ hk h0
theorem spM_plain (d : Nat) (h : zH) (p np cy vars : Nat) (w s : Int32) (hears : Bool) (hA : mAt h np cy s) (hc : fCan w vars hears = true) (h0 : fParts w = 0) (hv : vars ≤ 5) (hp : p < np) (hh : hears = false ∨ ((∀ i, i < np → fGood (h.1 36 i)) ∧ ∃ k, k < 2 ^ np ∧ s = nI k)) :
    zSP (d + 2) 0 0 mM_plain [.inr (.inr 27), .inl (nI p), .inl w] h (zI (c0P p np cy (h.1 34) (h.1 36) s w) h) := by
  obtain ⟨a1, a2, a3, a4, a5, a6⟩ := hA
  suffices main : ∀ K : zR → zH → Prop, (∀ x, x = c0P p np cy (h.1 34) (h.1 36) s w → K (.inl (some (.inl x))) h) → zSP (d + 2) 0 0 mM_plain [.inr (.inr 27), .inl (nI p), .inl w] h K from main _ (fun x hx => zIi hx)
  intro K hK
  rcases fCan_0 hc h0 hv with ⟨k, k1, rfl⟩ | ⟨k, k1, k2, rfl, k3⟩ | ⟨k, k1, rfl⟩
  · refine zmet (by decide +kernel) (Nat.le_of_ble_eq_true rfl) ?_
    refine r_iload_n (zdk oM_plain 0 rfl) rfl rfl ?_
    refine r_bipush (v := 15) (zdk oM_plain 1 rfl) (by decide) ?_
    refine r_icmp_gt (tgt := 8) (zdk oM_plain 2 rfl) (by decide) (fun q9 => absurd q9 ((nI_nlt (a := 15) (b := k) (by omega) (by decide)))) (fun _ => ?_)
    refine r_iload_n (zdk oM_plain 3 rfl) rfl rfl ?_
    refine r_iret (zdk oM_plain 4 rfl) rfl ?_
    exact hK _ (by rw [cP_num k1])
  · have hk : k = 31 ∨ k = 32 ∨ k = 33 ∨ k = 34 ∨ k = 35 ∨ k = 36 ∨ k = 37 ∨ k = 38 ∨ k = 39 := by omega
    refine zmet (by decide +kernel) (Nat.le_of_ble_eq_true rfl) ?_
    refine r_iload_n (zdk oM_plain 0 rfl) rfl rfl ?_
    refine r_bipush (v := 15) (zdk oM_plain 1 rfl) (by decide) ?_
    refine r_icmp_gt (tgt := 8) (zdk oM_plain 2 rfl) (by decide) (fun _ => ?_) (fun q9 => absurd ((nI_lt (a := 15) (b := k) (by omega) (by omega))) q9)
    refine r_iload_n (zdk oM_plain 5 rfl) rfl rfl ?_
    refine r_bipush (v := 100) (zdk oM_plain 6 rfl) (by decide) ?_
    refine r_icmp_lt (tgt := 28) (zdk oM_plain 7 rfl) (by decide) (fun _ => ?_) (fun q9 => absurd ((nI_lt (a := k) (b := 100) (by omega) (by decide))) q9)
    refine r_iload_n (zdk oM_plain 19 rfl) rfl rfl ?_
    rcases hk with rfl | rfl | rfl | rfl | rfl | rfl | rfl | rfl | rfl
    · refine r_tabIn (off := 51) (tgt := 80) (zdk oM_plain 20 rfl) (by decide) (by decide) rfl (by decide) ?_
      refine r_iload_n (zdk oM_plain 21 rfl) rfl rfl ?_
      refine r_iret (zdk oM_plain 22 rfl) rfl ?_
      exact hK _ rfl
    · refine r_tabIn (off := 53) (tgt := 82) (zdk oM_plain 20 rfl) (by decide) (by decide) rfl (by decide) ?_
      refine r_aload_n (zdk oM_plain 23 rfl) rfl rfl ?_
      refine r_geti (kf := 16) (zdk oM_plain 24 rfl) rfl rfl (by decide) lF_M_133 rfl ?_
      rw [a1]
      refine r_iret (zdk oM_plain 25 rfl) rfl ?_
      exact hK _ rfl
    · refine r_tabIn (off := 58) (tgt := 87) (zdk oM_plain 20 rfl) (by decide) (by decide) rfl (by decide) ?_
      refine r_aload_n (zdk oM_plain 26 rfl) rfl rfl ?_
      refine r_geti (kf := 17) (zdk oM_plain 27 rfl) rfl rfl (by decide) lF_M_143 rfl ?_
      rw [a2]
      refine r_bipush (v := 15) (zdk oM_plain 28 rfl) (by decide) ?_
      refine r_icmp_le (tgt := 101) (zdk oM_plain 29 rfl) (by decide) (fun hq => ?_) (fun hq => ?_)
      · have hq' : cy ≤ 15 := (nI_leI (by omega) (by decide)).mp hq
        refine r_aload_n (zdk oM_plain 32 rfl) rfl rfl ?_
        refine r_geti (kf := 17) (zdk oM_plain 33 rfl) rfl rfl (by decide) lF_M_143 rfl ?_
        rw [a2]
        refine r_iret (zdk oM_plain 34 rfl) rfl ?_
        exact hK _ (show nI cy = nI (min cy 15) by rw [Nat.min_eq_left hq'])
      · have hq' : 15 < cy := Nat.not_le.mp (fun z => hq ((nI_leI (by omega) (by decide)).mpr z))
        refine r_bipush (v := 15) (zdk oM_plain 30 rfl) (by decide) ?_
        refine r_goto (tgt := 105) (zdk oM_plain 31 rfl) (by decide) ?_
        refine r_iret (zdk oM_plain 34 rfl) rfl ?_
        exact hK _ (show (15 : Int32) = nI (min cy 15) by rw [Nat.min_eq_right (by omega)]; rfl)
    · refine r_tabIn (off := 77) (tgt := 106) (zdk oM_plain 20 rfl) (by decide) (by decide) rfl (by decide) ?_
      refine r_aload_n (zdk oM_plain 35 rfl) rfl rfl ?_
      refine r_geti (kf := 17) (zdk oM_plain 36 rfl) rfl rfl (by decide) lF_M_143 rfl ?_
      rw [a2]
      refine r_aload_n (zdk oM_plain 37 rfl) rfl rfl ?_
      refine r_geti (kf := 16) (zdk oM_plain 38 rfl) rfl rfl (by decide) lF_M_133 rfl ?_
      rw [a1]
      refine r_irem (zdk oM_plain 39 rfl) (nI_ne0 (n := np) (by omega) (by omega)) ?_
      refine r_tp (pk_rem (a := cy) (d := np) (by omega) (by omega) (by omega)) ?_
      refine r_iret (zdk oM_plain 40 rfl) rfl ?_
      exact hK _ rfl
    · refine r_tabIn (off := 87) (tgt := 116) (zdk oM_plain 20 rfl) (by decide) (by decide) rfl (by decide) ?_
      have loop : ∀ j q, q + j = np → zMC false (d + 2) 0 0 0 0 mM_plain K 121 [some (.inr (.inr 27)), some (.inl (nI p)), some (.inl (nI 35)), some (.inl (nI (fHd s q))), some (.inl (nI q))] [] h := by
        intro j
        induction j with
        | zero =>
          intro q hq
          have e : q = np := by omega
          subst e
          refine r_iload (zdk oM_plain 45 rfl) rfl ?_
          refine r_aload_n (zdk oM_plain 46 rfl) rfl rfl ?_
          refine r_geti (kf := 16) (zdk oM_plain 47 rfl) rfl rfl (by decide) lF_M_133 rfl ?_
          rw [a1]
          refine r_icmp_ge (tgt := 148) (zdk oM_plain 48 rfl) (by decide) (fun _ => ?_) (fun q9 => absurd ((Int32.le_refl (nI q))) q9)
          refine r_iload_n (zdk oM_plain 60 rfl) rfl rfl ?_
          refine r_iret (zdk oM_plain 61 rfl) rfl ?_
          exact hK _ rfl
        | succ j ih =>
          intro q hq
          refine r_iload (zdk oM_plain 45 rfl) rfl ?_
          refine r_aload_n (zdk oM_plain 46 rfl) rfl rfl ?_
          refine r_geti (kf := 16) (zdk oM_plain 47 rfl) rfl rfl (by decide) lF_M_133 rfl ?_
          rw [a1]
          refine r_icmp_ge (tgt := 148) (zdk oM_plain 48 rfl) (by decide) (fun q9 => absurd q9 ((nI_ge (a := q) (b := np) (by omega) (by omega)))) (fun _ => ?_)
          refine r_iload_n (zdk oM_plain 49 rfl) rfl rfl ?_
          refine r_aload_n (zdk oM_plain 50 rfl) rfl rfl ?_
          refine r_geti (kf := 18) (zdk oM_plain 51 rfl) rfl rfl (by decide) lF_M_136 rfl ?_
          rw [a3]
          refine r_iload (zdk oM_plain 52 rfl) rfl ?_
          refine r_ishr (zdk oM_plain 53 rfl) ?_
          refine r_iconst (v := 1) (zdk oM_plain 54 rfl) (by decide) ?_
          refine r_iand (zdk oM_plain 55 rfl) ?_
          refine r_tp (y := fB s q) rfl ?_
          refine r_iadd (zdk oM_plain 56 rfl) ?_
          refine r_tp (y := nI (fHd s (q + 1))) ?_ ?_
          · simp only [fHd]
            rcases fB_01 s q with z | z
            · rw [z, if_neg (by decide), Nat.add_zero, Int32.add_zero]
            · rw [z, if_pos rfl, nI_1]
          refine r_istore_n (zdk oM_plain 57 rfl) rfl (Nat.le_of_ble_eq_true rfl) rfl ?_
          first | refine r_iinc (zdk oM_plain 58 rfl) rfl (zinc _) rfl ?_ | refine r_iinc (zdk oM_plain 58 rfl) rfl rfl rfl ?_
          refine r_goto (tgt := 121) (zdk oM_plain 59 rfl) (by decide) ?_
          exact ih (q + 1) (by omega)
      refine r_iconst (v := 0) (zdk oM_plain 41 rfl) (by decide) ?_
      refine r_istore_n (zdk oM_plain 42 rfl) rfl (Nat.le_of_ble_eq_true rfl) rfl ?_
      refine r_iconst (v := 0) (zdk oM_plain 43 rfl) (by decide) ?_
      refine r_istore (zdk oM_plain 44 rfl) (Nat.le_of_ble_eq_true rfl) rfl ?_
      exact loop np 0 (by omega)
    · refine r_tabIn (off := 143) (tgt := 172) (zdk oM_plain 20 rfl) (by decide) (by decide) rfl (by decide) ?_
      refine r_aload_n (zdk oM_plain 73 rfl) rfl rfl ?_
      refine r_iload_n (zdk oM_plain 74 rfl) rfl rfl ?_
      refine r_callV1i (M' := mM_ofHeard) (zdk oM_plain 75 rfl) lM_M_146 vM_ofHeard rfl rfl (Nat.le_of_ble_eq_true rfl) rfl (spM_ofHeard (d) h np (nI 36) a1 a5) ?_
      refine r_iret (zdk oM_plain 76 rfl) rfl ?_
      exact hK _ (by rw [a3]; rfl)
    · refine r_tabIn (off := 143) (tgt := 172) (zdk oM_plain 20 rfl) (by decide) (by decide) rfl (by decide) ?_
      refine r_aload_n (zdk oM_plain 73 rfl) rfl rfl ?_
      refine r_iload_n (zdk oM_plain 74 rfl) rfl rfl ?_
      refine r_callV1i (M' := mM_ofHeard) (zdk oM_plain 75 rfl) lM_M_146 vM_ofHeard rfl rfl (Nat.le_of_ble_eq_true rfl) rfl (spM_ofHeard (d) h np (nI 37) a1 a5) ?_
      refine r_iret (zdk oM_plain 76 rfl) rfl ?_
      exact hK _ (by rw [a3]; rfl)
    · refine r_tabIn (off := 143) (tgt := 172) (zdk oM_plain 20 rfl) (by decide) (by decide) rfl (by decide) ?_
      refine r_aload_n (zdk oM_plain 73 rfl) rfl rfl ?_
      refine r_iload_n (zdk oM_plain 74 rfl) rfl rfl ?_
      refine r_callV1i (M' := mM_ofHeard) (zdk oM_plain 75 rfl) lM_M_146 vM_ofHeard rfl rfl (Nat.le_of_ble_eq_true rfl) rfl (spM_ofHeard (d) h np (nI 38) a1 a5) ?_
      refine r_iret (zdk oM_plain 76 rfl) rfl ?_
      exact hK _ (by rw [a3]; rfl)
    · have hh' : (∀ i, i < np → fGood (h.1 36 i)) ∧ ∃ k, k < 2 ^ np ∧ s = nI k := by
        rcases hh with z | z
        · rcases k3 with y | y
          · rw [z] at y; cases y
          · omega
        · exact z
      obtain ⟨hgm, ks, hks, es⟩ := hh'
      have p128 := pow7 a5
      refine r_tabIn (off := 121) (tgt := 150) (zdk oM_plain 20 rfl) (by decide) (by decide) rfl (by decide) ?_
      refine r_aload_n (zdk oM_plain 62 rfl) rfl rfl ?_
      refine r_geti (kf := 18) (zdk oM_plain 63 rfl) rfl rfl (by decide) lF_M_136 rfl ?_
      rw [a3]
      refine r_if_ne (tgt := 161) (zdk oM_plain 64 rfl) (by decide) (fun hz => ?_) (fun hz => ?_)
      · have hk0 : ¬ ks = 0 := fun z => hz (by rw [es, z]; rfl)
        have hne := fMost_heard (N := np) (s := s) np hgm (by rw [es]; exact fHd_pos hks hk0 a5)
        refine r_aload_n (zdk oM_plain 67 rfl) rfl rfl ?_
        refine r_aload_n (zdk oM_plain 68 rfl) rfl rfl ?_
        refine r_bipush (v := 38) (zdk oM_plain 69 rfl) (by decide) ?_
        refine r_callV1i (M' := mM_ofHeard) (zdk oM_plain 70 rfl) lM_M_146 vM_ofHeard rfl rfl (Nat.le_of_ble_eq_true rfl) rfl (spM_ofHeard (d) h np 38 a1 a5) ?_
        refine r_callV1i (M' := mM_times) (zdk oM_plain 71 rfl) lM_M_139 vM_times rfl rfl (Nat.le_of_ble_eq_true rfl) rfl (spM_times (d + 1) h np _ a1 a5) ?_
        refine r_iret (zdk oM_plain 72 rfl) rfl ?_
        refine hK _ ?_
        rw [a3]
        show nI (fTm (h.1 36) s (fZ (fMost (h.1 36) s np np)) np) = (if fMost (h.1 36) s np np = -1 then 0 else nI (fTm (h.1 36) s (fMost (h.1 36) s np np) np))
        rw [if_neg hne, show fZ (fMost (h.1 36) s np np) = fMost (h.1 36) s np np from if_neg hne]
      · refine r_iconst (v := 0) (zdk oM_plain 65 rfl) (by decide) ?_
        refine r_goto (tgt := 171) (zdk oM_plain 66 rfl) (by decide) ?_
        refine r_iret (zdk oM_plain 72 rfl) rfl ?_
        refine hK _ ?_
        show (0 : Int32) = (if fMost (h.1 36) s np np = -1 then 0 else nI (fTm (h.1 36) s (fMost (h.1 36) s np np) np))
        rw [if_pos (by rw [hz]; exact fMost_0 np a5)]
  · refine zmet (by decide +kernel) (Nat.le_of_ble_eq_true rfl) ?_
    refine r_iload_n (zdk oM_plain 0 rfl) rfl rfl ?_
    refine r_bipush (v := 15) (zdk oM_plain 1 rfl) (by decide) ?_
    refine r_icmp_gt (tgt := 8) (zdk oM_plain 2 rfl) (by decide) (fun _ => ?_) (fun q9 => absurd ((nI_lt (a := 15) (b := 100 + k) (by omega) (by omega))) q9)
    refine r_iload_n (zdk oM_plain 5 rfl) rfl rfl ?_
    refine r_bipush (v := 100) (zdk oM_plain 6 rfl) (by decide) ?_
    refine r_icmp_lt (tgt := 28) (zdk oM_plain 7 rfl) (by decide) (fun q9 => absurd q9 ((nI_nlt (a := 100 + k) (b := 100) (by omega) (by omega)))) (fun _ => ?_)
    refine r_aload_n (zdk oM_plain 8 rfl) rfl rfl ?_
    refine r_getr (kf := 13) (zdk oM_plain 9 rfl) rfl rfl (by decide) lF_M_28 rfl ?_
    refine r_iconst (v := 5) (zdk oM_plain 10 rfl) (by decide) ?_
    refine r_iload_n (zdk oM_plain 11 rfl) rfl rfl ?_
    refine r_imul (zdk oM_plain 12 rfl) ?_
    refine r_iload_n (zdk oM_plain 13 rfl) rfl rfl ?_
    refine r_iadd (zdk oM_plain 14 rfl) ?_
    refine r_bipush (v := 100) (zdk oM_plain 15 rfl) (by decide) ?_
    refine r_isub (zdk oM_plain 16 rfl) ?_
    refine r_tp (show (5 : Int32) * nI p + nI (100 + k) - 100 = nI (5 * p + k) by rw [show (5 : Int32) = nI 5 from rfl, pk_mul, nI_add, show (100 : Int32) = nI 100 from rfl, pk_sub (by omega)]; congr 1; omega) ?_
    refine r_iald (zdk oM_plain 17 rfl) rfl (vp_in_nI (n := 5 * p + k) (by omega) (by decide)) ?_
    refine r_iret (zdk oM_plain 18 rfl) rfl ?_
    exact hK _ (by rw [nI_clamp (by omega), cP_var (by omega)])
theorem spM_value (d : Nat) (h : zH) (n ph vars f pt p np cy : Nat) (s : Int32) (hck : zMck h n ph vars) (hn : n ≤ 400) (hA : mAt h np cy s) (hf : f < ph) (hpt : pt ≤ vars) (hp : p < np) (hh : pt = 0 ∨ ((∀ i, i < np → fGood (h.1 36 i)) ∧ ∃ k, k < 2 ^ np ∧ s = nI k)) (hok : fOk vars (decide (¬ pt = 0)) (c0P p np cy (h.1 34) (h.1 36) s) (c1P np (h.1 36) s) f2) :
    zSP (d + 3) 0 0 mM_value [.inr (.inr 27), .inl (nI p), .inl (nI (6 * f + pt))] h (fun r h' => r = .inl (some (.inl (vE (h.1 28) n vars (f * (vars + 1) + pt) (c0P p np cy (h.1 34) (h.1 36) s) (c1P np (h.1 36) s)))) ∧ (∀ a j, a ≠ 37 → h'.1 a j = h.1 a j) ∧ h'.2 = h.2) := by
  obtain ⟨k7, k8, p1, p4, v2, v5, hex⟩ := hck
  obtain ⟨b0, q, dd, hqp, c29, c30, -⟩ := hex f pt hf hpt
  have hmod : (f * (vars + 1) + pt) % (vars + 1) = pt := by
    rw [Nat.mul_comm, Nat.mul_add_mod]
    exact Nat.mod_eq_of_lt (by omega)
  have hpE : pE (h.1 28) n vars (decide (¬ pt = 0)) 12 b0 = .inr (q, dd) := by
    have := hqp.2
    rw [hmod] at this
    exact this
  obtain ⟨w1, w2, w3⟩ := pE_words 12 b0 q dd hpE
  have hb4 := qE_le v5 hn _ _ hqp.1
  obtain ⟨hbq, -⟩ := pE_run hok 12 b0 q dd hpE
  have hok' : fOk vars (decide (¬ (f * (vars + 1) + pt) % (vars + 1) = 0)) (c0P p np cy (h.1 34) (h.1 36) s) (c1P np (h.1 36) s) f2 := by rw [hmod]; exact hok
  obtain ⟨hgx, hrx⟩ := vE_good hqp hok'
  generalize vE (h.1 28) n vars (f * (vars + 1) + pt) (c0P p np cy (h.1 34) (h.1 36) s) (c1P np (h.1 36) s) = x at *
  have hb1 : 2 ≤ b0 := by
    have : ∀ e p, qE (h.1 28) n vars e = .inr p → 2 ≤ p := by
      intro e
      induction e with
      | zero => intro p hq; simp only [qE] at hq; cases hq; omega
      | succ e ih =>
        intro p hq
        simp only [qE] at hq
        cases r : qE (h.1 28) n vars e with
        | inl y => rw [r] at hq; cases hq
        | inr p0 =>
          rw [r] at hq
          simp only at hq
          cases r2 : pE (h.1 28) n vars (decide (¬ e % (vars + 1) = 0)) 12 p0 with
          | inl y => rw [r2] at hq; cases hq
          | inr y =>
            obtain ⟨q1, d1⟩ := y
            rw [r2] at hq
            cases hq
            have := ih p0 r
            have := (pE_words 12 p0 _ d1 r2).1
            omega
    exact this _ b0 hqp.1
  have hsl : 6 * f + pt < 24 := by omega
  have esl : (nI (6 * f + pt)).toNatClampNeg = 6 * f + pt := nI_clamp (by omega)
  generalize 6 * f + pt = slot at *
  obtain ⟨a1, a2, a3, a4, a5, a6⟩ := id hA
  suffices main : ∀ K : zR → zH → Prop, (∀ H : zH, (∀ a j, a ≠ 37 → H.1 a j = h.1 a j) → H.2 = h.2 → K (.inl (some (.inl x))) H) → zSP (d + 3) 0 0 mM_value [.inr (.inr 27), .inl (nI p), .inl (nI slot)] h K from main _ (fun H h1 h2 => ⟨rfl, h1, h2⟩)
  intro K hK
  have loop : ∀ (k : Nat) (st : List Int32) (H : zH), k ≤ q - b0 → (∀ a j, a ≠ 37 → H.1 a j = h.1 a j) → H.2 = h.2 → Stk (H.1 37) st → (∀ v ∈ st, fGood v) → fRun (fStep (c0P p np cy (h.1 34) (h.1 36) s) (c1P np (h.1 36) s) f2) (h.1 28) b0 k st = some [x] → st.length + k ≤ 399 →
      zMC false (d + 3) 0 0 0 0 mM_value K 12 [some (.inr (.inr 27)), some (.inl (nI p)), some (.inl (nI slot)), some (.inl (nI st.length)), some (.inl (nI (b0 + k - 1))), none, none, none] [] H := by
    intro k
    induction k with
    | zero =>
      intro st H _ ho hl hst hgs hr hlen
      simp only [fRun] at hr
      cases hr
      refine r_iload (zdk oM_value 9 rfl) rfl ?_
      refine r_aload_n (zdk oM_value 10 rfl) rfl rfl ?_
      refine r_getr (kf := 4) (zdk oM_value 11 rfl) rfl rfl (by decide) lF_M_13 rfl ?_
      refine r_iload_n (zdk oM_value 12 rfl) rfl rfl ?_
      refine r_iald (zdk oM_value 13 rfl) rfl (vp_in_nI (n := slot) (by omega) (by decide)) ?_
      rw [esl, ho 29 slot (by decide), c29]
      refine r_icmp_lt (tgt := 174) (zdk oM_value 14 rfl) (by decide) (fun _ => ?_) (fun q9 => absurd ((nI_lt (a := b0 + 0 - 1) (b := b0) (by omega) (by omega))) q9)
      refine r_aload_n (zdk oM_value 103 rfl) rfl rfl ?_
      refine r_getr (kf := 19) (zdk oM_value 104 rfl) rfl rfl (by decide) lF_M_37 rfl ?_
      refine r_iconst (v := 0) (zdk oM_value 105 rfl) (by decide) ?_
      refine r_iald (zdk oM_value 106 rfl) rfl (vp_in_nI (n := 0) (by decide) (by decide)) ?_
      rw [show H.1 37 (0 : Int32).toNatClampNeg = x from hst.1]
      refine r_iret (zdk oM_value 107 rfl) rfl ?_
      exact hK H ho hl
    | succ k ih =>
      intro st H hk ho hl hst hgs hr hlen
      have epk : b0 + (k + 1) - 1 = b0 + k := by omega
      rw [epk]
      have ek : (nI (b0 + k)).toNatClampNeg = b0 + k := nI_clamp (by omega)
      have g28 : H.1 28 = h.1 28 := funext (fun j => ho 28 j (by decide))
      have g34 : H.1 34 = h.1 34 := funext (fun j => ho 34 j (by decide))
      have g36 : H.1 36 = h.1 36 := funext (fun j => ho 36 j (by decide))
      have gA : mAt H np cy s := ⟨by rw [ho 27 16 (by decide), a1], by rw [ho 27 17 (by decide), a2], by rw [ho 27 18 (by decide), a3], a4, a5, a6⟩
      have g8 : H.1 27 8 = nI vars := by rw [ho 27 8 (by decide), k8]
      obtain ⟨st', hs1, hs2⟩ := fRun_succ hr
      have hcan := w3 (b0 + k) (by omega) (by omega)
      generalize hw : h.1 28 (b0 + k) = w at *
      have hcanT : fCan w vars (!false) = true := by
        simp only [fCan, Bool.or_eq_true, Bool.and_eq_true, decide_eq_true_eq] at hcan ⊢
        rcases hcan with z | z | z
        · exact Or.inl z
        · exact Or.inr (Or.inl z)
        · exact Or.inr (Or.inr ⟨rfl, z.2⟩)
      have hh' : decide (¬ pt = 0) = false ∨ ((∀ i, i < np → fGood (H.1 36 i)) ∧ ∃ k, k < 2 ^ np ∧ s = nI k) := by
        rcases hh with z | z
        · exact Or.inl (by simp [z])
        · rw [g36]; exact Or.inr z
      -- behind the word: the value stands in local 7
      have back : ∀ (m tl : Nat) (v : Int32) (st0 : List Int32), st.length = tl + m → m ≤ 3 → st0.length = tl → Stk (H.1 37) st0 → (∀ v ∈ st0, fGood v) → fGood v → fRun (fStep (c0P p np cy (h.1 34) (h.1 36) s) (c1P np (h.1 36) s) f2) (h.1 28) b0 k (v :: st0) = some [x] → zMC false (d + 3) 0 0 0 0 mM_value K 152 [some (.inr (.inr 27)), some (.inl (nI p)), some (.inl (nI slot)), some (.inl (nI st.length)), some (.inl (nI (b0 + k))), some (.inl w), some (.inl (nI m)), some (.inl v)] [] H := by
        intro m tl v st0 e1 m3 e2 hst0 hg0 hgv hr0
        refine r_iload_n (zdk oM_value 91 rfl) rfl rfl ?_
        refine r_iload (zdk oM_value 92 rfl) rfl ?_
        refine r_isub (zdk oM_value 93 rfl) ?_
        refine r_tp (show nI st.length - nI m = nI st0.length by rw [pk_sub (by omega)]; congr 1; omega) ?_
        refine r_istore_n (zdk oM_value 94 rfl) rfl (Nat.le_of_ble_eq_true rfl) rfl ?_
        refine r_aload_n (zdk oM_value 95 rfl) rfl rfl ?_
        refine r_getr (kf := 19) (zdk oM_value 96 rfl) rfl rfl (by decide) lF_M_37 rfl ?_
        refine r_iload_n (zdk oM_value 97 rfl) rfl rfl ?_
        refine r_iload (zdk oM_value 98 rfl) rfl ?_
        refine r_iast (zdk oM_value 99 rfl) rfl (vp_in_nI (n := st0.length) (by omega) (by decide)) ?_
        first | refine r_iinc (zdk oM_value 100 rfl) rfl (zinc _) rfl ?_ | refine r_iinc (zdk oM_value 100 rfl) rfl rfl rfl ?_
        rw [nI_clamp (n := st0.length) (by omega)]
        refine r_iinc (zdk oM_value 101 rfl) rfl (show nI (b0 + k) + Int32.ofInt (-1) = nI (b0 + k - 1) by rw [show b0 + k = (b0 + k - 1) + 1 by omega]; exact zdec _) rfl ?_
        refine r_goto (tgt := 12) (zdk oM_value 102 rfl) (by decide) ?_
        refine r_mask [true, true, true, true, true, false, false, false] rfl rfl ?_
        exact ih (v :: st0) _ (by omega) (fun a j ha => by rw [zp1, if_neg (fun z => ha z.1)]; exact ho a j ha) hl ⟨by rw [zp1, if_pos ⟨rfl, rfl⟩], by rw [zput_at]; exact Stk_upd hst0 (Nat.le_refl _)⟩ (fun y hy => by
          rcases List.mem_cons.mp hy with rfl | hy
          · exact hgv
          · exact hg0 y hy) hr0 (by simp only [List.length_cons]; omega)
      refine r_iload (zdk oM_value 9 rfl) rfl ?_
      refine r_aload_n (zdk oM_value 10 rfl) rfl rfl ?_
      refine r_getr (kf := 4) (zdk oM_value 11 rfl) rfl rfl (by decide) lF_M_13 rfl ?_
      refine r_iload_n (zdk oM_value 12 rfl) rfl rfl ?_
      refine r_iald (zdk oM_value 13 rfl) rfl (vp_in_nI (n := slot) (by omega) (by decide)) ?_
      rw [esl, ho 29 slot (by decide), c29]
      refine r_icmp_lt (tgt := 174) (zdk oM_value 14 rfl) (by decide) (fun q9 => absurd q9 ((nI_nlt (a := b0 + k) (b := b0) (by omega) (by omega)))) (fun _ => ?_)
      refine r_aload_n (zdk oM_value 15 rfl) rfl rfl ?_
      refine r_getr (kf := 2) (zdk oM_value 16 rfl) rfl rfl (by decide) lF_M_7 rfl ?_
      refine r_iload (zdk oM_value 17 rfl) rfl ?_
      refine r_iald (zdk oM_value 18 rfl) rfl (vp_in_nI (n := b0 + k) (by omega) (by decide)) ?_
      rw [ek, g28, hw]
      refine r_istore (zdk oM_value 19 rfl) (Nat.le_of_ble_eq_true rfl) rfl ?_
      refine r_aload_n (zdk oM_value 20 rfl) rfl rfl ?_
      refine r_iload (zdk oM_value 21 rfl) rfl ?_
      refine r_iconst (v := 0) (zdk oM_value 22 rfl) (by decide) ?_
      refine r_callV2i (M' := mM_partsOf) (zdk oM_value 23 rfl) lM_M_116 vM_partsOf rfl rfl (Nat.le_of_ble_eq_true rfl) rfl (spM_partsOf (d + 1) H w vars false g8 v5) ?_
      rw [if_pos hcanT]
      rcases fStep_inv hs1 with ⟨m0, e0⟩ | ⟨m0, a, t, es, e0⟩ | ⟨m0, a, b, t, es, e0⟩ | ⟨m0, a, b, c, t, es, e0⟩
      · rw [m0]
        refine r_istore (zdk oM_value 24 rfl) (Nat.le_of_ble_eq_true rfl) rfl ?_
        refine r_iconst (v := 0) (zdk oM_value 25 rfl) (by decide) ?_
        refine r_istore (zdk oM_value 26 rfl) (Nat.le_of_ble_eq_true rfl) rfl ?_
        refine r_iload (zdk oM_value 27 rfl) rfl ?_
        refine r_if_ne (tgt := 61) (zdk oM_value 28 rfl) (by decide) (fun q9 => absurd ((rfl : nI 0 = 0)) q9) (fun _ => ?_)
        refine r_aload_n (zdk oM_value 29 rfl) rfl rfl ?_
        refine r_iload_n (zdk oM_value 30 rfl) rfl rfl ?_
        refine r_iload (zdk oM_value 31 rfl) rfl ?_
        refine r_callV2i (M' := mM_plain) (zdk oM_value 32 rfl) lM_M_153 vM_plain rfl rfl (Nat.le_of_ble_eq_true rfl) rfl (spM_plain d H p np cy vars w s (decide (¬ pt = 0)) gA hcan m0 v5 hp hh') ?_
        rw [g34, g36]
        refine r_istore (zdk oM_value 33 rfl) (Nat.le_of_ble_eq_true rfl) rfl ?_
        refine r_goto (tgt := 152) (zdk oM_value 34 rfl) (by decide) ?_
        exact back 0 st.length _ st (by omega) (by decide) rfl hst hgs (hok.1 w hcan m0) (by rw [← e0]; exact hs2)
      · rw [m0]
        subst es
        have ga : fGood a := hgs a List.mem_cons_self
        obtain ⟨i, hi, ei⟩ := fGood_nat ga
        refine r_istore (zdk oM_value 24 rfl) (Nat.le_of_ble_eq_true rfl) rfl ?_
        refine r_iconst (v := 0) (zdk oM_value 25 rfl) (by decide) ?_
        refine r_istore (zdk oM_value 26 rfl) (Nat.le_of_ble_eq_true rfl) rfl ?_
        refine r_iload (zdk oM_value 27 rfl) rfl ?_
        refine r_if_ne (tgt := 61) (zdk oM_value 28 rfl) (by decide) (fun _ => ?_) (fun q9 => absurd q9 ((show ¬ nI 1 = 0 by decide)))
        refine r_iload (zdk oM_value 35 rfl) rfl ?_
        refine r_iconst (v := 1) (zdk oM_value 36 rfl) (by decide) ?_
        refine r_icmp_ne (tgt := 87) (zdk oM_value 37 rfl) (by decide) (fun q9 => absurd ((rfl : nI 1 = 1)) q9) (fun _ => ?_)
        refine r_aload_n (zdk oM_value 38 rfl) rfl rfl ?_
        refine r_iload (zdk oM_value 39 rfl) rfl ?_
        refine r_aload_n (zdk oM_value 40 rfl) rfl rfl ?_
        refine r_getr (kf := 19) (zdk oM_value 41 rfl) rfl rfl (by decide) lF_M_37 rfl ?_
        refine r_iload_n (zdk oM_value 42 rfl) rfl rfl ?_
        refine r_iconst (v := 1) (zdk oM_value 43 rfl) (by decide) ?_
        refine r_isub (zdk oM_value 44 rfl) ?_
        refine r_tp (show nI (a :: t).length - 1 = nI t.length from nI_pred t.length) ?_
        refine r_iald (zdk oM_value 45 rfl) rfl (vp_in_nI (n := t.length) (by simp only [List.length_cons] at hlen; omega) (by decide)) ?_
        refine r_iconst (v := 0) (zdk oM_value 46 rfl) (by decide) ?_
        rw [nI_clamp (n := t.length) (by simp only [List.length_cons] at hlen; omega), show H.1 37 t.length = a from hst.1]
        have wk := spM_worked1 (d + 1) H w 0 np i gA.1 a5 hi m0
        rw [← ei, g36, gA.2.2.1] at wk
        refine r_callV3i (M' := mM_worked) (zdk oM_value 47 rfl) lM_M_157 vM_worked rfl rfl (Nat.le_of_ble_eq_true rfl) rfl (wk) ?_
        refine r_istore (zdk oM_value 48 rfl) (Nat.le_of_ble_eq_true rfl) rfl ?_
        refine r_goto (tgt := 152) (zdk oM_value 49 rfl) (by decide) ?_
        exact back 1 t.length _ t (by simp only [List.length_cons]) (by decide) rfl hst.2 (fun v hv => hgs v (List.mem_cons_of_mem _ hv)) (hok.2.1 w a hcan m0 ga) (by rw [← e0]; exact hs2)
      · rw [m0]
        subst es
        have ga : fGood a := hgs a List.mem_cons_self
        have gb : fGood b := hgs b (List.mem_cons_of_mem _ List.mem_cons_self)
        obtain ⟨i, hi, ei⟩ := fGood_nat ga
        obtain ⟨j, hj, ej⟩ := fGood_nat gb
        have hl2 : t.length + 2 + k ≤ 399 := by simp only [List.length_cons] at hlen; omega
        refine r_istore (zdk oM_value 24 rfl) (Nat.le_of_ble_eq_true rfl) rfl ?_
        refine r_iconst (v := 0) (zdk oM_value 25 rfl) (by decide) ?_
        refine r_istore (zdk oM_value 26 rfl) (Nat.le_of_ble_eq_true rfl) rfl ?_
        refine r_iload (zdk oM_value 27 rfl) rfl ?_
        refine r_if_ne (tgt := 61) (zdk oM_value 28 rfl) (by decide) (fun _ => ?_) (fun q9 => absurd q9 ((show ¬ nI 2 = 0 by decide)))
        refine r_iload (zdk oM_value 35 rfl) rfl ?_
        refine r_iconst (v := 1) (zdk oM_value 36 rfl) (by decide) ?_
        refine r_icmp_ne (tgt := 87) (zdk oM_value 37 rfl) (by decide) (fun _ => ?_) (fun q9 => absurd q9 ((show ¬ nI 2 = 1 by decide)))
        refine r_iload (zdk oM_value 50 rfl) rfl ?_
        refine r_iconst (v := 2) (zdk oM_value 51 rfl) (by decide) ?_
        refine r_icmp_ne (tgt := 120) (zdk oM_value 52 rfl) (by decide) (fun q9 => absurd ((rfl : nI 2 = 2)) q9) (fun _ => ?_)
        refine r_aload_n (zdk oM_value 53 rfl) rfl rfl ?_
        refine r_iload (zdk oM_value 54 rfl) rfl ?_
        refine r_aload_n (zdk oM_value 55 rfl) rfl rfl ?_
        refine r_getr (kf := 19) (zdk oM_value 56 rfl) rfl rfl (by decide) lF_M_37 rfl ?_
        refine r_iload_n (zdk oM_value 57 rfl) rfl rfl ?_
        refine r_iconst (v := 1) (zdk oM_value 58 rfl) (by decide) ?_
        refine r_isub (zdk oM_value 59 rfl) ?_
        refine r_tp (show nI (a :: b :: t).length - 1 = nI (t.length + 1) from nI_pred (t.length + 1)) ?_
        refine r_iald (zdk oM_value 60 rfl) rfl (vp_in_nI (n := t.length + 1) (by omega) (by decide)) ?_
        rw [nI_clamp (n := t.length + 1) (by omega), show H.1 37 (t.length + 1) = a from hst.1]
        refine r_aload_n (zdk oM_value 61 rfl) rfl rfl ?_
        refine r_getr (kf := 19) (zdk oM_value 62 rfl) rfl rfl (by decide) lF_M_37 rfl ?_
        refine r_iload_n (zdk oM_value 63 rfl) rfl rfl ?_
        refine r_iconst (v := 2) (zdk oM_value 64 rfl) (by decide) ?_
        refine r_isub (zdk oM_value 65 rfl) ?_
        refine r_tp (show nI (a :: b :: t).length - 2 = nI t.length by rw [show (2 : Int32) = nI 2 from rfl, pk_sub (by simp)]; rfl) ?_
        refine r_iald (zdk oM_value 66 rfl) rfl (vp_in_nI (n := t.length) (by omega) (by decide)) ?_
        rw [nI_clamp (n := t.length) (by omega), show H.1 37 t.length = b from hst.2.1]
        have wk := spM_worked2 (d + 1) H w i j hi hj m0
        rw [← ei, ← ej] at wk
        refine r_callV3i (M' := mM_worked) (zdk oM_value 67 rfl) lM_M_157 vM_worked rfl rfl (Nat.le_of_ble_eq_true rfl) rfl (wk) ?_
        refine r_istore (zdk oM_value 68 rfl) (Nat.le_of_ble_eq_true rfl) rfl ?_
        refine r_goto (tgt := 152) (zdk oM_value 69 rfl) (by decide) ?_
        exact back 2 t.length _ t (by simp only [List.length_cons]) (by decide) rfl hst.2.2 (fun v hv => hgs v (by simp [hv])) (hok.2.2 w a b hcan m0 ga gb) (by rw [← e0]; exact hs2)
      · rw [m0]
        subst es
        have gb : fGood b := hgs b (by simp)
        have gc : fGood c := hgs c (by simp)
        have hl3 : t.length + 3 + k ≤ 399 := by simp only [List.length_cons] at hlen; omega
        have gd : fGood (if a = 0 then c else b) := by
          split
          · exact gc
          · exact gb
        have fin := back 3 t.length (if a = 0 then c else b) t (by simp only [List.length_cons]) (by decide) rfl hst.2.2.2 (fun v hv => hgs v (by simp [hv])) gd (by rw [← e0]; exact hs2)
        refine r_istore (zdk oM_value 24 rfl) (Nat.le_of_ble_eq_true rfl) rfl ?_
        refine r_iconst (v := 0) (zdk oM_value 25 rfl) (by decide) ?_
        refine r_istore (zdk oM_value 26 rfl) (Nat.le_of_ble_eq_true rfl) rfl ?_
        refine r_iload (zdk oM_value 27 rfl) rfl ?_
        refine r_if_ne (tgt := 61) (zdk oM_value 28 rfl) (by decide) (fun _ => ?_) (fun q9 => absurd q9 ((show ¬ nI 3 = 0 by decide)))
        refine r_iload (zdk oM_value 35 rfl) rfl ?_
        refine r_iconst (v := 1) (zdk oM_value 36 rfl) (by decide) ?_
        refine r_icmp_ne (tgt := 87) (zdk oM_value 37 rfl) (by decide) (fun _ => ?_) (fun q9 => absurd q9 ((show ¬ nI 3 = 1 by decide)))
        refine r_iload (zdk oM_value 50 rfl) rfl ?_
        refine r_iconst (v := 2) (zdk oM_value 51 rfl) (by decide) ?_
        refine r_icmp_ne (tgt := 120) (zdk oM_value 52 rfl) (by decide) (fun _ => ?_) (fun q9 => absurd q9 ((show ¬ nI 3 = 2 by decide)))
        refine r_aload_n (zdk oM_value 70 rfl) rfl rfl ?_
        refine r_getr (kf := 19) (zdk oM_value 71 rfl) rfl rfl (by decide) lF_M_37 rfl ?_
        refine r_iload_n (zdk oM_value 72 rfl) rfl rfl ?_
        refine r_iconst (v := 1) (zdk oM_value 73 rfl) (by decide) ?_
        refine r_isub (zdk oM_value 74 rfl) ?_
        refine r_tp (show nI (a :: b :: c :: t).length - 1 = nI (t.length + 2) from nI_pred (t.length + 2)) ?_
        refine r_iald (zdk oM_value 75 rfl) rfl (vp_in_nI (n := t.length + 2) (by omega) (by decide)) ?_
        rw [nI_clamp (n := t.length + 2) (by omega), show H.1 37 (t.length + 2) = a from hst.1]
        refine r_if_eq (tgt := 142) (zdk oM_value 76 rfl) (by decide) (fun hz => ?_) (fun hz => ?_)
        · rw [if_pos hz] at fin
          refine r_aload_n (zdk oM_value 84 rfl) rfl rfl ?_
          refine r_getr (kf := 19) (zdk oM_value 85 rfl) rfl rfl (by decide) lF_M_37 rfl ?_
          refine r_iload_n (zdk oM_value 86 rfl) rfl rfl ?_
          refine r_iconst (v := 3) (zdk oM_value 87 rfl) (by decide) ?_
          refine r_isub (zdk oM_value 88 rfl) ?_
          refine r_tp (show nI (a :: b :: c :: t).length - 3 = nI t.length by rw [show (3 : Int32) = nI 3 from rfl, pk_sub (by simp)]; rfl) ?_
          refine r_iald (zdk oM_value 89 rfl) rfl (vp_in_nI (n := t.length) (by omega) (by decide)) ?_
          rw [nI_clamp (n := t.length) (by omega), show H.1 37 t.length = c from hst.2.2.1]
          refine r_istore (zdk oM_value 90 rfl) (Nat.le_of_ble_eq_true rfl) rfl ?_
          exact fin
        · rw [if_neg hz] at fin
          refine r_aload_n (zdk oM_value 77 rfl) rfl rfl ?_
          refine r_getr (kf := 19) (zdk oM_value 78 rfl) rfl rfl (by decide) lF_M_37 rfl ?_
          refine r_iload_n (zdk oM_value 79 rfl) rfl rfl ?_
          refine r_iconst (v := 2) (zdk oM_value 80 rfl) (by decide) ?_
          refine r_isub (zdk oM_value 81 rfl) ?_
          refine r_tp (show nI (a :: b :: c :: t).length - 2 = nI (t.length + 1) by rw [show (2 : Int32) = nI 2 from rfl, pk_sub (by simp)]; rfl) ?_
          refine r_iald (zdk oM_value 82 rfl) rfl (vp_in_nI (n := t.length + 1) (by omega) (by decide)) ?_
          refine r_goto (tgt := 150) (zdk oM_value 83 rfl) (by decide) ?_
          rw [nI_clamp (n := t.length + 1) (by omega), show H.1 37 (t.length + 1) = b from hst.2.1]
          refine r_istore (zdk oM_value 90 rfl) (Nat.le_of_ble_eq_true rfl) rfl ?_
          exact fin
  refine zmet (by decide +kernel) (Nat.le_of_ble_eq_true rfl) ?_
  refine r_iconst (v := 0) (zdk oM_value 0 rfl) (by decide) ?_
  refine r_istore_n (zdk oM_value 1 rfl) rfl (Nat.le_of_ble_eq_true rfl) rfl ?_
  refine r_aload_n (zdk oM_value 2 rfl) rfl rfl ?_
  refine r_getr (kf := 5) (zdk oM_value 3 rfl) rfl rfl (by decide) lF_M_16 rfl ?_
  refine r_iload_n (zdk oM_value 4 rfl) rfl rfl ?_
  refine r_iald (zdk oM_value 5 rfl) rfl (vp_in_nI (n := slot) (by omega) (by decide)) ?_
  rw [esl, c30]
  refine r_iconst (v := 1) (zdk oM_value 6 rfl) (by decide) ?_
  refine r_isub (zdk oM_value 7 rfl) ?_
  refine r_tp (show nI q - 1 = nI (b0 + (q - b0) - 1) by rw [show (1 : Int32) = nI 1 from rfl, pk_sub (by omega)]; congr 1; omega) ?_
  refine r_istore (zdk oM_value 8 rfl) (Nat.le_of_ble_eq_true rfl) rfl ?_
  exact loop (q - b0) [] h (Nat.le_refl _) (fun _ _ _ => rfl) rfl trivial (fun v hv => by cases hv) hrx (by simp only [List.length_nil]; omega)
