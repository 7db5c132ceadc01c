theorem zChk_congr {h H : zH} {n ph vars : Nat} (ho : ∀ a j, a ≤ 4 → H.1 a j = h.1 a j) (hc : zChk h n ph vars) : zChk H n ph vars := by
  obtain ⟨k5, k6, p1, p4, v2, v5, hex⟩ := hc
  refine ⟨by rw [ho 1 5 (by decide), k5], by rw [ho 1 6 (by decide), k6], p1, p4, v2, v5, fun e he => ?_⟩
  obtain ⟨p, q, dd, a, b, c, e⟩ := hex e he
  rw [show H.1 2 = h.1 2 from funext (fun j => ho 2 j (by decide)), ho 3 _ (by decide), ho 3 _ (by decide), ho 4 _ (by decide)]
  exact ⟨p, q, dd, a, b, c, e⟩
theorem fOk_congr {vars : Nat} {hears : Bool} {c0 c0' : Int32 → Int32} {c1 c1' : Int32 → Int32 → Int32} (h0 : ∀ w, fCan w vars hears = true → fParts w = 0 → c0 w = c0' w) (h1 : ∀ w a, fCan w vars hears = true → fParts w = 1 → c1 w a = c1' w a) (hok : fOk vars hears c0' c1' f2) : fOk vars hears c0 c1 f2 :=
  ⟨fun w hc hp => by rw [h0 w hc hp]; exact hok.1 w hc hp, fun w a hc hp ha => by rw [h1 w a hc hp]; exact hok.2.1 w a hc hp ha, hok.2.2⟩
theorem zWO_v {h : zH} {G n vars e : Nat} {gr : Int32} {r : zR} {h' : zH} (hw : zWO h G n vars e gr r h') : ∃ x, x = vE (h.1 2) n vars e (gc0 h G) (gc1 h G) ∧ fGood x ∧ r = .inl (some (.inl (if gr < x then gr else x))) ∧ (∀ a j, a ≠ G + 4 → h'.1 a j = h.1 a j) ∧ h'.2 = h.2 := by
  obtain ⟨p, q, dd, x, hq, hr, hx, h1, h2, h3⟩ := hw
  obtain ⟨e1, e2⟩ := qP_B hq
  refine ⟨x, ?_, hx, h1, h2, h3⟩
  unfold vE
  rw [e1, e2, hr]
  rfl
theorem fGood_99 {x : Int32} (h : fGood x) : (if 99 < x then 99 else x) = x := by
  rw [if_neg]
  intro q
  rw [Int32.lt_iff_toInt_lt] at q
  have := h.2
  simp at q
  omega
theorem gcP_msg1 {h : zH} {G np vars : Nat} {w a : Int32} {m : Nat → Int32} {s : Int32} (hv : vars ≤ 5) (hc : fCan w vars false = true) (h1 : fParts w = 1) : gc1 h G w a = c1P np m s w a := by
  rw [fCan_1f hc h1 hv]
  rfl
/-- the ears hold what process 'me' learns of the set nI k -/
def gEar (h : zH) (G k : Nat) : Prop := h.1 (G + 1) 6 = nI k ∧ h.1 (G + 1) 1 = nI (fHd (nI k) 7) ∧ h.1 (G + 1) 2 = fZ (fMin (h.1 (G + 2)) (nI k) 7) ∧ h.1 (G + 1) 3 = fZ (fMax (h.1 (G + 2)) (nI k) 7) ∧ h.1 (G + 1) 4 = fZ (fMost (h.1 (G + 2)) (nI k) 7 7) ∧ h.1 (G + 1) 5 = (if fMost (h.1 (G + 2)) (nI k) 7 7 = -1 then 0 else nI (fTm (h.1 (G + 2)) (nI k) (fMost (h.1 (G + 2)) (nI k) 7 7) 7))
theorem gcP_hear {h : zH} {G me np cy vars k : Nat} {w : Int32} {hears : Bool} (hg : gAt h G me np cy) (he : gEar h G k) (hk : k < 2 ^ np) (hv : vars ≤ 5) (hc : fCan w vars hears = true) (h0 : fParts w = 0) : gc0 h G w = c0P me np cy (h.1 (G + 3)) (h.1 (G + 2)) (nI k) w := by
  have hn7 : np ≤ 7 := hg.2.2.2.2.1
  obtain ⟨j, hj⟩ : ∃ j, np + j = 7 := ⟨7 - np, by omega⟩
  rcases fCan_0 hc h0 hv with ⟨i, k1, rfl⟩ | ⟨i, k1, k2, rfl, k3⟩ | ⟨i, k1, rfl⟩
  · exact gcP_low hg hv hc h0 (Or.inr (Or.inl (by rw [nI_toInt (by omega)]; omega)))
  · obtain ⟨a1, a2, a3, a4, a5, a6⟩ := he
    have o1 := fHd_out hk j (by omega)
    have o2 := fMin_out (m := h.1 (G + 2)) hk j (by omega)
    have o3 := fMax_out (m := h.1 (G + 2)) hk j (by omega)
    have o5 : ∀ v, fTm (h.1 (G + 2)) (nI k) v 7 = fTm (h.1 (G + 2)) (nI k) v np := fun v => by rw [← hj]; exact fTm_out hk j (by omega)
    have o4 : fMost (h.1 (G + 2)) (nI k) 7 7 = fMost (h.1 (G + 2)) (nI k) np np := by
      rw [fMost_N o5, ← hj]
      exact fMost_out hk j (by omega)
    rw [hj] at o1 o2 o3
    have hi : i ≤ 34 ∨ i = 35 ∨ i = 36 ∨ i = 37 ∨ i = 38 ∨ i = 39 := by omega
    rcases hi with hi | rfl | rfl | rfl | rfl | rfl
    · exact gcP_low hg hv hc h0 (Or.inr (Or.inl (by rw [nI_toInt (by omega)]; omega)))
    · show h.1 (G + 1) 1 = nI (fHd (nI k) np)
      rw [a2, o1]
    · show h.1 (G + 1) 2 = fZ (fMin (h.1 (G + 2)) (nI k) np)
      rw [a3, o2]
    · show h.1 (G + 1) 3 = fZ (fMax (h.1 (G + 2)) (nI k) np)
      rw [a4, o3]
    · show h.1 (G + 1) 4 = fZ (fMost (h.1 (G + 2)) (nI k) np np)
      rw [a5, o4]
    · show h.1 (G + 1) 5 = (if fMost (h.1 (G + 2)) (nI k) np np = -1 then 0 else nI (fTm (h.1 (G + 2)) (nI k) (fMost (h.1 (G + 2)) (nI k) np np) np))
      rw [a6, o4, o5]
  · exact gcP_low hg hv hc h0 (Or.inr (Or.inr (by rw [nI_toInt (by omega)]; omega)))
theorem gcP_hear1 {h : zH} {G np k : Nat} {w a : Int32} (he : gEar h G k) (hk : k < 2 ^ np) (hn7 : np ≤ 7) : gc1 h G w a = c1P np (h.1 (G + 2)) (nI k) w a := by
  obtain ⟨j, hj⟩ : ∃ j, np + j = 7 := ⟨7 - np, by omega⟩
  unfold gc1 c1P
  rw [he.1]
  by_cases c40 : w = 40
  · rw [if_pos c40, if_pos c40, ← hj, fTm_out hk j (by omega)]
  rw [if_neg c40, if_neg c40]
  by_cases c41 : w = 41
  · rw [if_pos c41, if_pos c41]
    by_cases q : a.toNatClampNeg < np
    · have : a.toNatClampNeg < 7 := by omega
      simp [q, this]
    · by_cases q7 : a.toNatClampNeg < 7
      · rw [fB_out hk (by omega) q7]
        simp
      · simp [q, q7]
  rw [if_neg c41, if_neg c41]
/-- what all have said -/
def zSpk (h : zH) (G n ph vars np r : Nat) (h' : zH) : Prop := h'.1 G 5 = nI (r % ph) ∧ h'.1 G 6 = nI (r / ph) ∧ (∀ p, p < np → h'.1 (G + 2) p = pMsg (h.1 2) n vars ph np r (h.1 (G + 3)) p) ∧ (∀ i, i < 7 → fGood (h'.1 (G + 2) i)) ∧ (∀ a j, ¬ (a = G ∧ 5 ≤ j) → a ≠ G + 2 → a ≠ G + 4 → h'.1 a j = h.1 a j) ∧ h'.2 = h.2
theorem spG_speak_9 (d : Nat) (h : zH) (n ph vars np r : Nat) (hck : zChk h n ph vars) (hn : n ≤ 400) (hp : h.1 9 2 = nI np) (np1 : 1 ≤ np) (np7 : np ≤ 7) (hr : r ≤ 1000) (hval : ∀ p v, p < np → v < vars → fGood (h.1 12 (5 * p + v))) (hm : ∀ i, i < 7 → fGood (h.1 11 i)) :
    zSP (d + 3) 0 0 mG_speak [.inr (.inr 9), .inl (nI r)] h (fun r0 h' => r0 = .inl none ∧ zSpk h 9 n ph vars np r h') := by
  obtain ⟨k5, -, p1, p4, v2, v5, -⟩ := id hck
  have hrp : r / ph ≤ r := Nat.div_le_self r ph
  have hrm : r % ph < ph := Nat.mod_lt _ (by omega)
  have loop : ∀ (k p : Nat) (H : zH), p + k = np → H.1 9 5 = nI (r % ph) → H.1 9 6 = nI (r / ph) → (∀ i, i < p → H.1 11 i = pMsg (h.1 2) n vars ph np r (h.1 12) i) → (∀ i, i < 7 → fGood (H.1 11 i)) → (∀ a j, ¬ (a = 9 ∧ 5 ≤ j) → a ≠ 11 → a ≠ 13 → H.1 a j = h.1 a j) → H.2 = h.2 →
      zMC false (d + 3) 0 0 0 0 mG_speak (fun r0 h' => r0 = .inl none ∧ zSpk h 9 n ph vars np r h') 28 [some (.inr (.inr 9)), some (.inl (nI r)), some (.inl (nI p))] [] H := by
    intro k
    induction k with
    | zero =>
      intro p H hk h5 h6 hms hg ho hl
      have e2 : H.1 9 2 = nI np := by rw [ho 9 2 (by decide) (by decide) (by decide), hp]
      have e : p = np := by omega
      subst e
      refine r_iload_n (zdk oG_speak 16 rfl) rfl rfl ?_
      refine r_aload_n (zdk oG_speak 17 rfl) rfl rfl ?_
      refine r_geti (kf := 2) (zdk oG_speak 18 rfl) rfl rfl (by decide) lF_G_22 rfl ?_
      rw [e2]
      refine r_icmp_ge (tgt := 61) (zdk oG_speak 19 rfl) (by decide) (fun _ => ?_) (fun q9 => absurd ((Int32.le_refl (nI p))) q9)
      refine r_vret (zdk oG_speak 33 rfl) rfl ?_
      exact ⟨rfl, h5, h6, hms, hg, ho, hl⟩
    | succ k ih =>
      intro p H hk h5 h6 hms hg ho hl
      have e2 : H.1 9 2 = nI np := by rw [ho 9 2 (by decide) (by decide) (by decide), hp]
      have ep : (nI p).toNatClampNeg = p := nI_clamp (by omega)
      refine r_iload_n (zdk oG_speak 16 rfl) rfl rfl ?_
      refine r_aload_n (zdk oG_speak 17 rfl) rfl rfl ?_
      refine r_geti (kf := 2) (zdk oG_speak 18 rfl) rfl rfl (by decide) lF_G_22 rfl ?_
      rw [e2]
      refine r_icmp_ge (tgt := 61) (zdk oG_speak 19 rfl) (by decide) (fun q9 => absurd q9 ((nI_ge (a := p) (b := np) (by omega) (by omega)))) (fun _ => ?_)
      refine r_aload_n (zdk oG_speak 20 rfl) rfl rfl ?_
      refine r_iload_n (zdk oG_speak 21 rfl) rfl rfl ?_
      refine r_puti (kf := 7) (zdk oG_speak 22 rfl) rfl rfl (by decide) lF_G_44 rfl rfl (by decide +kernel) (Or.inl rfl) ?_
      refine r_aload_n (zdk oG_speak 23 rfl) rfl rfl ?_
      refine r_getr (kf := 0) (zdk oG_speak 24 rfl) rfl rfl (by decide) lF_G_12 rfl ?_
      refine r_getr (kf := 0) (zdk oG_speak 25 rfl) rfl rfl (by decide) lF_G_47 rfl ?_
      refine r_iload_n (zdk oG_speak 26 rfl) rfl rfl ?_
      refine r_aload_n (zdk oG_speak 27 rfl) rfl rfl ?_
      refine r_iconst (v := -1) (zdk oG_speak 28 rfl) (by decide) ?_
      refine r_tp (show (-1 : Int32) = nI 0 - 1 by decide) ?_
      have oA : ∀ a j, a ≤ 4 → (zput H 9 7 (nI p)).1 a j = h.1 a j := by
        intro a j ha
        rw [zp1, if_neg (by omega)]
        exact ho a j (by omega) (by omega) (by omega)
      have o2 : (zput H 9 7 (nI p)).1 2 = h.1 2 := funext (fun j => oA 2 j (by decide))
      have o3 : (zput H 9 7 (nI p)).1 12 = h.1 12 := by
        funext j
        rw [zp1, if_neg (by omega)]
        exact ho 12 j (by omega) (by decide) (by decide)
      have hck1 : zChk (zput H 9 7 (nI p)) n ph vars := zChk_congr oA hck
      have hgat : gAt (zput H 9 7 (nI p)) 9 p np (r / ph) := ⟨by simp [zp1], by simp [zp1, e2], by simp [zp1, h6], by omega, np7, by omega⟩
      have cg0 : ∀ w, fCan w vars (decide (¬ 0 = 0)) = true → fParts w = 0 → gc0 (zput H 9 7 (nI p)) 9 w = c0P p np (r / ph) (h.1 12) (fun _ => 0) 0 w := fun w hc h0 => by
        have := gcP_low (m := fun _ => 0) (s := 0) hgat v5 hc h0 (Or.inl (by decide))
        rw [show (zput H 9 7 (nI p)).1 (9 + 3) = h.1 12 from o3] at this
        exact this
      have cg1 : ∀ w a, fCan w vars (decide (¬ 0 = 0)) = true → fParts w = 1 → gc1 (zput H 9 7 (nI p)) 9 w a = c1P np (fun _ => 0) 0 w a := fun w a hc h1 => gcP_msg1 v5 hc h1
      have hok := fOk_congr cg0 cg1 (cP_ok (hears := decide (¬ 0 = 0)) (show p < np by omega) np7 v5 (fun v hv => hval p v (by omega) hv) (fun _ _ => nI_good (k := 0) (by decide)))
      refine r_callV1 (M' := mG_workOut) (zdk oG_speak 29 rfl) lM_G_50 vG_workOut rfl rfl (Nat.le_of_ble_eq_true rfl) rfl (spG_workOut_9 (d) (zput H 9 7 (nI p)) n ph vars (r % ph) p 0 hck1 hn (by simp [zp1, h5]) hrm (by simp [zp1]) (by omega) (by simp [zp1, e2]; exact nI_ne0 (by omega) (by omega)) (by omega) hok) ?_
      intro r0 h1 hw
      obtain ⟨x, hx, hgx, er, ho1, hl1⟩ := zWO_v hw
      cases er
      have hex : x = pMsg (h.1 2) n vars ph np r (h.1 12) p := by
        rw [hx, o2, Nat.add_zero]
        have hlt : r % ph * (vars + 1) < ph * (vars + 1) := Nat.mul_lt_mul_of_pos_right hrm (by omega)
        obtain ⟨p0, q0, d0, hqp, -⟩ := hck.2.2.2.2.2.2 _ hlt
        have hm0 : r % ph * (vars + 1) % (vars + 1) = 0 := Nat.mul_mod_left _ _
        exact vE_congr hqp (fun w hc h0 => cg0 w (by rw [hm0] at hc; exact hc) h0) (fun w a hc h0 => cg1 w a (by rw [hm0] at hc; exact hc) h0)
      rw [if_pos rfl, fGood_99 hgx]
      refine r_iast (zdk oG_speak 30 rfl) rfl (vp_in_nI (n := p) (by omega) (by decide)) ?_
      first | refine r_iinc (zdk oG_speak 31 rfl) rfl (zinc _) rfl ?_ | refine r_iinc (zdk oG_speak 31 rfl) rfl rfl rfl ?_
      refine r_goto (tgt := 28) (zdk oG_speak 32 rfl) (by decide) ?_
      rw [ep]
      have oB : ∀ a j, ¬ (a = 9 ∧ 5 ≤ j) → a ≠ 13 → h1.1 a j = H.1 a j := by
        intro a j c1 c2
        rw [ho1 a j c2, zp1, if_neg (by omega)]
      refine ih (p + 1) _ (by omega) ?_ ?_ ?_ ?_ ?_ ?_
      · rw [zp1, if_neg (by omega), ho1 9 5 (by decide), zp1, if_neg (by omega), h5]
      · rw [zp1, if_neg (by omega), ho1 9 6 (by decide), zp1, if_neg (by omega), h6]
      · intro i hi
        rw [zp1]
        by_cases hip : i = p
        · rw [if_pos ⟨rfl, hip⟩, hip, hex]
        · rw [if_neg (fun z => hip z.2), oB 11 i (by omega) (by decide)]
          exact hms i (by omega)
      · intro i hi
        rw [zp1]
        split
        · exact hgx
        · rw [oB 11 i (by omega) (by decide)]
          exact hg i hi
      · intro a j c1 c2 c3
        rw [zp1, if_neg (fun z => c2 z.1), oB a j c1 c3]
        exact ho a j c1 c2 c3
      · rw [zp2, hl1]; exact hl
  refine zmet (by decide +kernel) (Nat.le_of_ble_eq_true rfl) ?_
  refine r_aload_n (zdk oG_speak 0 rfl) rfl rfl ?_
  refine r_iload_n (zdk oG_speak 1 rfl) rfl rfl ?_
  refine r_aload_n (zdk oG_speak 2 rfl) rfl rfl ?_
  refine r_getr (kf := 3) (zdk oG_speak 3 rfl) rfl rfl (by decide) lF_G_29 rfl ?_
  refine r_geti (kf := 5) (zdk oG_speak 4 rfl) rfl rfl (by decide) lF_G_33 rfl ?_
  rw [k5]
  refine r_irem (zdk oG_speak 5 rfl) (nI_ne0 (n := ph) (by omega) (by omega)) ?_
  refine r_tp (pk_rem (a := r) (d := ph) (by omega) (by omega) (by omega)) ?_
  refine r_puti (kf := 5) (zdk oG_speak 6 rfl) rfl rfl (by decide) lF_G_38 rfl rfl (by decide +kernel) (Or.inl rfl) ?_
  refine r_aload_n (zdk oG_speak 7 rfl) rfl rfl ?_
  refine r_iload_n (zdk oG_speak 8 rfl) rfl rfl ?_
  refine r_aload_n (zdk oG_speak 9 rfl) rfl rfl ?_
  refine r_getr (kf := 3) (zdk oG_speak 10 rfl) rfl rfl (by decide) lF_G_29 rfl ?_
  refine r_geti (kf := 5) (zdk oG_speak 11 rfl) rfl rfl (by decide) lF_G_33 rfl ?_
  have e5 : (zput h 9 5 (nI (r % ph))).1 1 5 = nI ph := by simp [zp1, k5]
  rw [e5]
  refine r_idiv (zdk oG_speak 12 rfl) (nI_ne0 (n := ph) (by omega) (by omega)) ?_
  refine r_tp (pk_div (a := r) (d := ph) (by omega) (by omega) (by omega)) ?_
  refine r_puti (kf := 6) (zdk oG_speak 13 rfl) rfl rfl (by decide) lF_G_41 rfl rfl (by decide +kernel) (Or.inl rfl) ?_
  refine r_iconst (v := 0) (zdk oG_speak 14 rfl) (by decide) ?_
  refine r_istore_n (zdk oG_speak 15 rfl) rfl (Nat.le_of_ble_eq_true rfl) rfl ?_
  refine loop np 0 _ (by omega) (by simp [zp1]) (by simp [zp1]) (fun i hi => by omega) ?_ ?_ rfl
  · intro i hi
    simp only [zp1]
    rw [if_neg (by omega), if_neg (by omega)]
    exact hm i hi
  · intro a j c1 c2 c3
    simp only [zp1]
    rw [if_neg (by omega), if_neg (by omega)]
theorem spG_speak_16 (d : Nat) (h : zH) (n ph vars np r : Nat) (hck : zChk h n ph vars) (hn : n ≤ 400) (hp : h.1 16 2 = nI np) (np1 : 1 ≤ np) (np7 : np ≤ 7) (hr : r ≤ 1000) (hval : ∀ p v, p < np → v < vars → fGood (h.1 19 (5 * p + v))) (hm : ∀ i, i < 7 → fGood (h.1 18 i)) :
    zSP (d + 3) 0 0 mG_speak [.inr (.inr 16), .inl (nI r)] h (fun r0 h' => r0 = .inl none ∧ zSpk h 16 n ph vars np r h') := by
  obtain ⟨k5, -, p1, p4, v2, v5, -⟩ := id hck
  have hrp : r / ph ≤ r := Nat.div_le_self r ph
  have hrm : r % ph < ph := Nat.mod_lt _ (by omega)
  have loop : ∀ (k p : Nat) (H : zH), p + k = np → H.1 16 5 = nI (r % ph) → H.1 16 6 = nI (r / ph) → (∀ i, i < p → H.1 18 i = pMsg (h.1 2) n vars ph np r (h.1 19) i) → (∀ i, i < 7 → fGood (H.1 18 i)) → (∀ a j, ¬ (a = 16 ∧ 5 ≤ j) → a ≠ 18 → a ≠ 20 → H.1 a j = h.1 a j) → H.2 = h.2 →
      zMC false (d + 3) 0 0 0 0 mG_speak (fun r0 h' => r0 = .inl none ∧ zSpk h 16 n ph vars np r h') 28 [some (.inr (.inr 16)), some (.inl (nI r)), some (.inl (nI p))] [] H := by
    intro k
    induction k with
    | zero =>
      intro p H hk h5 h6 hms hg ho hl
      have e2 : H.1 16 2 = nI np := by rw [ho 16 2 (by decide) (by decide) (by decide), hp]
      have e : p = np := by omega
      subst e
      refine r_iload_n (zdk oG_speak 16 rfl) rfl rfl ?_
      refine r_aload_n (zdk oG_speak 17 rfl) rfl rfl ?_
      refine r_geti (kf := 2) (zdk oG_speak 18 rfl) rfl rfl (by decide) lF_G_22 rfl ?_
      rw [e2]
      refine r_icmp_ge (tgt := 61) (zdk oG_speak 19 rfl) (by decide) (fun _ => ?_) (fun q9 => absurd ((Int32.le_refl (nI p))) q9)
      refine r_vret (zdk oG_speak 33 rfl) rfl ?_
      exact ⟨rfl, h5, h6, hms, hg, ho, hl⟩
    | succ k ih =>
      intro p H hk h5 h6 hms hg ho hl
      have e2 : H.1 16 2 = nI np := by rw [ho 16 2 (by decide) (by decide) (by decide), hp]
      have ep : (nI p).toNatClampNeg = p := nI_clamp (by omega)
      refine r_iload_n (zdk oG_speak 16 rfl) rfl rfl ?_
      refine r_aload_n (zdk oG_speak 17 rfl) rfl rfl ?_
      refine r_geti (kf := 2) (zdk oG_speak 18 rfl) rfl rfl (by decide) lF_G_22 rfl ?_
      rw [e2]
      refine r_icmp_ge (tgt := 61) (zdk oG_speak 19 rfl) (by decide) (fun q9 => absurd q9 ((nI_ge (a := p) (b := np) (by omega) (by omega)))) (fun _ => ?_)
      refine r_aload_n (zdk oG_speak 20 rfl) rfl rfl ?_
      refine r_iload_n (zdk oG_speak 21 rfl) rfl rfl ?_
      refine r_puti (kf := 7) (zdk oG_speak 22 rfl) rfl rfl (by decide) lF_G_44 rfl rfl (by decide +kernel) (Or.inl rfl) ?_
      refine r_aload_n (zdk oG_speak 23 rfl) rfl rfl ?_
      refine r_getr (kf := 0) (zdk oG_speak 24 rfl) rfl rfl (by decide) lF_G_12 rfl ?_
      refine r_getr (kf := 0) (zdk oG_speak 25 rfl) rfl rfl (by decide) lF_G_47 rfl ?_
      refine r_iload_n (zdk oG_speak 26 rfl) rfl rfl ?_
      refine r_aload_n (zdk oG_speak 27 rfl) rfl rfl ?_
      refine r_iconst (v := -1) (zdk oG_speak 28 rfl) (by decide) ?_
      refine r_tp (show (-1 : Int32) = nI 0 - 1 by decide) ?_
      have oA : ∀ a j, a ≤ 4 → (zput H 16 7 (nI p)).1 a j = h.1 a j := by
        intro a j ha
        rw [zp1, if_neg (by omega)]
        exact ho a j (by omega) (by omega) (by omega)
      have o2 : (zput H 16 7 (nI p)).1 2 = h.1 2 := funext (fun j => oA 2 j (by decide))
      have o3 : (zput H 16 7 (nI p)).1 19 = h.1 19 := by
        funext j
        rw [zp1, if_neg (by omega)]
        exact ho 19 j (by omega) (by decide) (by decide)
      have hck1 : zChk (zput H 16 7 (nI p)) n ph vars := zChk_congr oA hck
      have hgat : gAt (zput H 16 7 (nI p)) 16 p np (r / ph) := ⟨by simp [zp1], by simp [zp1, e2], by simp [zp1, h6], by omega, np7, by omega⟩
      have cg0 : ∀ w, fCan w vars (decide (¬ 0 = 0)) = true → fParts w = 0 → gc0 (zput H 16 7 (nI p)) 16 w = c0P p np (r / ph) (h.1 19) (fun _ => 0) 0 w := fun w hc h0 => by
        have := gcP_low (m := fun _ => 0) (s := 0) hgat v5 hc h0 (Or.inl (by decide))
        rw [show (zput H 16 7 (nI p)).1 (16 + 3) = h.1 19 from o3] at this
        exact this
      have cg1 : ∀ w a, fCan w vars (decide (¬ 0 = 0)) = true → fParts w = 1 → gc1 (zput H 16 7 (nI p)) 16 w a = c1P np (fun _ => 0) 0 w a := fun w a hc h1 => gcP_msg1 v5 hc h1
      have hok := fOk_congr cg0 cg1 (cP_ok (hears := decide (¬ 0 = 0)) (show p < np by omega) np7 v5 (fun v hv => hval p v (by omega) hv) (fun _ _ => nI_good (k := 0) (by decide)))
      refine r_callV1 (M' := mG_workOut) (zdk oG_speak 29 rfl) lM_G_50 vG_workOut rfl rfl (Nat.le_of_ble_eq_true rfl) rfl (spG_workOut_16 (d) (zput H 16 7 (nI p)) n ph vars (r % ph) p 0 hck1 hn (by simp [zp1, h5]) hrm (by simp [zp1]) (by omega) (by simp [zp1, e2]; exact nI_ne0 (by omega) (by omega)) (by omega) hok) ?_
      intro r0 h1 hw
      obtain ⟨x, hx, hgx, er, ho1, hl1⟩ := zWO_v hw
      cases er
      have hex : x = pMsg (h.1 2) n vars ph np r (h.1 19) p := by
        rw [hx, o2, Nat.add_zero]
        have hlt : r % ph * (vars + 1) < ph * (vars + 1) := Nat.mul_lt_mul_of_pos_right hrm (by omega)
        obtain ⟨p0, q0, d0, hqp, -⟩ := hck.2.2.2.2.2.2 _ hlt
        have hm0 : r % ph * (vars + 1) % (vars + 1) = 0 := Nat.mul_mod_left _ _
        exact vE_congr hqp (fun w hc h0 => cg0 w (by rw [hm0] at hc; exact hc) h0) (fun w a hc h0 => cg1 w a (by rw [hm0] at hc; exact hc) h0)
      rw [if_pos rfl, fGood_99 hgx]
      refine r_iast (zdk oG_speak 30 rfl) rfl (vp_in_nI (n := p) (by omega) (by decide)) ?_
      first | refine r_iinc (zdk oG_speak 31 rfl) rfl (zinc _) rfl ?_ | refine r_iinc (zdk oG_speak 31 rfl) rfl rfl rfl ?_
      refine r_goto (tgt := 28) (zdk oG_speak 32 rfl) (by decide) ?_
      rw [ep]
      have oB : ∀ a j, ¬ (a = 16 ∧ 5 ≤ j) → a ≠ 20 → h1.1 a j = H.1 a j := by
        intro a j c1 c2
        rw [ho1 a j c2, zp1, if_neg (by omega)]
      refine ih (p + 1) _ (by omega) ?_ ?_ ?_ ?_ ?_ ?_
      · rw [zp1, if_neg (by omega), ho1 16 5 (by decide), zp1, if_neg (by omega), h5]
      · rw [zp1, if_neg (by omega), ho1 16 6 (by decide), zp1, if_neg (by omega), h6]
      · intro i hi
        rw [zp1]
        by_cases hip : i = p
        · rw [if_pos ⟨rfl, hip⟩, hip, hex]
        · rw [if_neg (fun z => hip z.2), oB 18 i (by omega) (by decide)]
          exact hms i (by omega)
      · intro i hi
        rw [zp1]
        split
        · exact hgx
        · rw [oB 18 i (by omega) (by decide)]
          exact hg i hi
      · intro a j c1 c2 c3
        rw [zp1, if_neg (fun z => c2 z.1), oB a j c1 c3]
        exact ho a j c1 c2 c3
      · rw [zp2, hl1]; exact hl
  refine zmet (by decide +kernel) (Nat.le_of_ble_eq_true rfl) ?_
  refine r_aload_n (zdk oG_speak 0 rfl) rfl rfl ?_
  refine r_iload_n (zdk oG_speak 1 rfl) rfl rfl ?_
  refine r_aload_n (zdk oG_speak 2 rfl) rfl rfl ?_
  refine r_getr (kf := 3) (zdk oG_speak 3 rfl) rfl rfl (by decide) lF_G_29 rfl ?_
  refine r_geti (kf := 5) (zdk oG_speak 4 rfl) rfl rfl (by decide) lF_G_33 rfl ?_
  rw [k5]
  refine r_irem (zdk oG_speak 5 rfl) (nI_ne0 (n := ph) (by omega) (by omega)) ?_
  refine r_tp (pk_rem (a := r) (d := ph) (by omega) (by omega) (by omega)) ?_
  refine r_puti (kf := 5) (zdk oG_speak 6 rfl) rfl rfl (by decide) lF_G_38 rfl rfl (by decide +kernel) (Or.inl rfl) ?_
  refine r_aload_n (zdk oG_speak 7 rfl) rfl rfl ?_
  refine r_iload_n (zdk oG_speak 8 rfl) rfl rfl ?_
  refine r_aload_n (zdk oG_speak 9 rfl) rfl rfl ?_
  refine r_getr (kf := 3) (zdk oG_speak 10 rfl) rfl rfl (by decide) lF_G_29 rfl ?_
  refine r_geti (kf := 5) (zdk oG_speak 11 rfl) rfl rfl (by decide) lF_G_33 rfl ?_
  have e5 : (zput h 16 5 (nI (r % ph))).1 1 5 = nI ph := by simp [zp1, k5]
  rw [e5]
  refine r_idiv (zdk oG_speak 12 rfl) (nI_ne0 (n := ph) (by omega) (by omega)) ?_
  refine r_tp (pk_div (a := r) (d := ph) (by omega) (by omega) (by omega)) ?_
  refine r_puti (kf := 6) (zdk oG_speak 13 rfl) rfl rfl (by decide) lF_G_41 rfl rfl (by decide +kernel) (Or.inl rfl) ?_
  refine r_iconst (v := 0) (zdk oG_speak 14 rfl) (by decide) ?_
  refine r_istore_n (zdk oG_speak 15 rfl) rfl (Nat.le_of_ble_eq_true rfl) rfl ?_
  refine loop np 0 _ (by omega) (by simp [zp1]) (by simp [zp1]) (fun i hi => by omega) ?_ ?_ rfl
  · intro i hi
    simp only [zp1]
    rw [if_neg (by omega), if_neg (by omega)]
    exact hm i hi
  · intro a j c1 c2 c3
    simp only [zp1]
    rw [if_neg (by omega), if_neg (by omega)]
