/-! the class's search: next states -/
def tg (N : Nat → Nat → Nat) (np c : Nat) : Nat → Nat
  | 0 => 0
  | p + 1 => tg N np c p ||| N p (xSt np c p)
theorem spS_together (d : Nat) (h : zH) (N : Nat → Nat → Nat) (np c : Nat) (hn : h.1 14 13 = nI np) (n3 : np ≤ 3) (hc : c < 512) (hN : ∀ p k, p < np → k < 2 ^ np → h.2 26 (8 * p + k) = nJ (N p k)) :
    zSP (d + 1) 0 0 mS_together [.inr (.inr 14), .inl (nI c)] h (zJ (nJ (tg N np c np)) h) := by
  suffices main : ∀ Q : zR → zH → Prop, Q (.inl (some (.inr (.inl (nJ (tg N np c np)))))) h → zSP (d + 1) 0 0 mS_together [.inr (.inr 14), .inl (nI c)] h Q from main _ (zJi rfl)
  intro Q hQ
  have loop : ∀ (m p : Nat), p + m = np → zMC false (d + 1) 0 0 0 0 mS_together Q 5 [some (.inr (.inr 14)), some (.inl (nI c)), some (.inr (.inl (nJ (tg N np c p)))), none, some (.inl (nI p))] [] h := by
    intro m
    induction m with
    | zero =>
      intro p hp
      have e : p = np := by omega
      subst e
      refine r_iload (zdk oS_together 4 rfl) rfl ?_
      refine r_aload_n (zdk oS_together 5 rfl) rfl rfl ?_
      refine r_geti (kf := 13) (zdk oS_together 6 rfl) rfl rfl (by decide) lF_S_47 rfl ?_
      rw [hn]
      refine r_icmp_ge (tgt := 45) (zdk oS_together 7 rfl) (by decide) (fun _ => ?_) (fun q9 => absurd ((Int32.le_refl (nI p))) q9)
      refine r_lload_n (zdk oS_together 26 rfl) rfl rfl ?_
      refine r_lret (zdk oS_together 27 rfl) rfl ?_
      exact hQ
    | succ m ih =>
      intro p hp
      have h8 := xSt8 (np := np) (c := c) (p := p) n3
      refine r_iload (zdk oS_together 4 rfl) rfl ?_
      refine r_aload_n (zdk oS_together 5 rfl) rfl rfl ?_
      refine r_geti (kf := 13) (zdk oS_together 6 rfl) rfl rfl (by decide) lF_S_47 rfl ?_
      rw [hn]
      refine r_icmp_ge (tgt := 45) (zdk oS_together 7 rfl) (by decide) (fun q9 => absurd q9 ((nI_ge (a := p) (b := np) (by omega) (by omega)))) (fun _ => ?_)
      refine r_lload_n (zdk oS_together 8 rfl) rfl rfl ?_
      refine r_aload_n (zdk oS_together 9 rfl) rfl rfl ?_
      refine r_getr (kf := 11) (zdk oS_together 10 rfl) rfl rfl (by decide) lF_S_41 rfl ?_
      refine r_iload (zdk oS_together 11 rfl) rfl ?_
      refine r_bipush (v := 8) (zdk oS_together 12 rfl) (by decide) ?_
      refine r_imul (zdk oS_together 13 rfl) ?_
      refine r_tp (show nI p * 8 = nI (8 * p) by rw [show (8 : Int32) = nI 8 from rfl, pk_mul, Nat.mul_comm]) ?_
      refine r_aload_n (zdk oS_together 14 rfl) rfl rfl ?_
      refine r_iload_n (zdk oS_together 15 rfl) rfl rfl ?_
      refine r_iload (zdk oS_together 16 rfl) rfl ?_
      refine r_aload_n (zdk oS_together 17 rfl) rfl rfl ?_
      refine r_geti (kf := 13) (zdk oS_together 18 rfl) rfl rfl (by decide) lF_S_47 rfl ?_
      rw [hn]
      refine r_callV3i (M' := mS_digit) (zdk oS_together 19 rfl) lM_S_91 vS_digit rfl rfl (Nat.le_of_ble_eq_true rfl) rfl (spS_digit d h np c p hn n3 hc (by omega)) ?_
      refine r_iadd (zdk oS_together 20 rfl) ?_
      refine r_tp (nI_add (8 * p) (xSt np c p)) ?_
      refine r_lald (zdk oS_together 21 rfl) rfl (vp_in_nI (n := 8 * p + xSt np c p) (by omega) (by decide)) ?_
      rw [nI_clamp (n := 8 * p + xSt np c p) (by omega), hN p _ (by omega) (xSt_lt _ _ _)]
      refine r_lor (zdk oS_together 22 rfl) ?_
      rw [nJ_or]
      refine r_lstore_n (zdk oS_together 23 rfl) rfl (Nat.le_of_ble_eq_true rfl) rfl ?_
      first | refine r_iinc (zdk oS_together 24 rfl) rfl (zinc _) rfl ?_ | refine r_iinc (zdk oS_together 24 rfl) rfl rfl rfl ?_
      refine r_goto (tgt := 5) (zdk oS_together 25 rfl) (by decide) ?_
      exact ih (p + 1) (by omega)
  refine zmet (by decide +kernel) (Nat.le_of_ble_eq_true rfl) ?_
  refine r_lconst (v := 0) (zdk oS_together 0 rfl) (by decide) ?_
  refine r_lstore_n (zdk oS_together 1 rfl) rfl (Nat.le_of_ble_eq_true rfl) rfl ?_
  refine r_iconst (v := 0) (zdk oS_together 2 rfl) (by decide) ?_
  refine r_istore (zdk oS_together 3 rfl) (Nat.le_of_ble_eq_true rfl) rfl ?_
  exact loop np 0 (by omega)
def nx (f : Nat → Nat) (p : Nat) : Nat → Nat
  | 0 => 0
  | v + 1 => nx f p v ||| f v * 16 ^ (5 * p + v)
/-- all is set for a round of the search's group -/
def zGr (H : zH) (n ph vars np r : Nat) : Prop := zChk H n ph vars ∧ H.1 16 2 = nI np ∧ H.1 16 5 = nI (r % ph) ∧ H.1 16 6 = nI (r / ph) ∧ (∀ p v, p < np → v < vars → fGood (H.1 19 (5 * p + v))) ∧ (∀ i, i < 7 → fGood (H.1 18 i))
theorem zGr.congr {H H' : zH} {n ph vars np r : Nat} (h : zGr H n ph vars np r) (ho : ∀ a j, (a = 1 ∨ a = 2 ∨ a = 3 ∨ a = 4 ∨ (a = 16 ∧ (j = 2 ∨ j = 5 ∨ j = 6)) ∨ a = 18 ∨ a = 19) → H'.1 a j = H.1 a j) : zGr H' n ph vars np r := by
  obtain ⟨⟨c1, c2, c3, c4, c5, c6, c7⟩, g2, g3, g4, g5, g6⟩ := h
  refine ⟨⟨by rw [ho 1 5 (by omega), c1], by rw [ho 1 6 (by omega), c2], c3, c4, c5, c6, fun e he => ?_⟩, by rw [ho 16 2 (by omega), g2], by rw [ho 16 5 (by omega), g3], by rw [ho 16 6 (by omega), g4], fun p v hp hv => by rw [ho 19 _ (by omega)]; exact g5 p v hp hv, fun i hi => by rw [ho 18 _ (by omega)]; exact g6 i hi⟩
  rw [show H'.1 2 = H.1 2 from funext (fun j => ho 2 j (by omega)), ho 3 _ (by omega), ho 3 _ (by omega), ho 4 _ (by omega)]
  exact c7 e he
theorem spS_nextOf (d : Nat) (h : zH) (n ph vars np r p k : Nat) (hg : zGr h n ph vars np r) (hn : n ≤ 400) (n3 : np ≤ 3) (hr : r ≤ 100) (hp : p < np) (hk : k < 2 ^ np) (f : Nat → Nat) (hf : ∀ v, v < vars → f v < 16 ∧ pNxt (h.1 2) n vars ph np r (h.1 19) (h.1 18) (nI k) p v = nI (f v)) :
    zSP (d + 3) 0 0 mS_nextOf [.inr (.inr 14), .inl (nI p), .inl (nI k)] h (fun r0 h' => r0 = .inl (some (.inr (.inl (nJ (nx f p vars))))) ∧ (∀ a j, ¬ (a = 16 ∧ j = 7) → a ≠ 17 → a ≠ 20 → h'.1 a j = h.1 a j) ∧ h'.2 = h.2) := by
  suffices main : ∀ Q : zR → zH → Prop, (∀ h', (∀ a j, ¬ (a = 16 ∧ j = 7) → a ≠ 17 → a ≠ 20 → h'.1 a j = h.1 a j) → h'.2 = h.2 → Q (.inl (some (.inr (.inl (nJ (nx f p vars)))))) h') → zSP (d + 3) 0 0 mS_nextOf [.inr (.inr 14), .inl (nI p), .inl (nI k)] h Q from main _ (fun h' a b => ⟨rfl, a, b⟩)
  intro Q hQ
  obtain ⟨hck, g2, g5, g6, gv, gm⟩ := id hg
  obtain ⟨k5, k6, p1, p4, v2, v5, -⟩ := id hck
  have hrp : r / ph ≤ r := Nat.div_le_self r ph
  have hL : gEar (zListen (zput h 16 7 (nI p)) 17 ((zput h 16 7 (nI p)).1 18) (nI k) 7) 16 k := gEar_listen_16 _ k
  have e18 : (zput h 16 7 (nI p)).1 18 = h.1 18 := by funext j; rw [zp1, if_neg (by omega)]
  rw [e18] at hL
  have oL : ∀ a j, a ≠ 17 → (zListen (zput h 16 7 (nI p)) 17 (h.1 18) (nI k) 7).1 a j = (zput h 16 7 (nI p)).1 a j := fun a j ha => zEars_o ha
  have lL : (zListen (zput h 16 7 (nI p)) 17 (h.1 18) (nI k) 7).2 = h.2 := rfl
  refine zmet (by decide +kernel) (Nat.le_of_ble_eq_true rfl) ?_
  refine r_aload_n (zdk oS_nextOf 0 rfl) rfl rfl ?_
  refine r_getr (kf := 5) (zdk oS_nextOf 1 rfl) rfl rfl (by decide) lF_S_66 rfl ?_
  refine r_iload_n (zdk oS_nextOf 2 rfl) rfl rfl ?_
  refine r_iload_n (zdk oS_nextOf 3 rfl) rfl rfl ?_
  refine r_callV2v (M' := mG_turnTo) (zdk oS_nextOf 4 rfl) lM_S_152 vG_turnTo rfl rfl (Nat.le_of_ble_eq_true rfl) rfl (spG_turnTo_16 d h (nI p) (nI k) gm) ?_
  generalize zListen (zput h 16 7 (nI p)) 17 (h.1 18) (nI k) 7 = L0 at hL oL lL ⊢
  have oA : ∀ a j, ¬ (a = 16 ∧ j = 7) → a ≠ 17 → L0.1 a j = h.1 a j := fun a j c1 c2 => by rw [oL a j c2, zp1, if_neg c1]
  have e7 : L0.1 16 7 = nI p := by rw [oL 16 7 (by decide), zp1, if_pos ⟨rfl, rfl⟩]
  have loop : ∀ (m v : Nat) (H : zH), v + m = vars → (∀ a j, a ≠ 20 → H.1 a j = L0.1 a j) → H.2 = h.2 → zMC false (d + 3) 0 0 0 0 mS_nextOf Q 14 [some (.inr (.inr 14)), some (.inl (nI p)), some (.inl (nI k)), some (.inr (.inl (nJ (nx f p v)))), none, some (.inl (nI v))] [] H := by
    intro m
    induction m with
    | zero =>
      intro v H hv ho hl
      have e : v = vars := by omega
      subst e
      have e6 : H.1 1 6 = nI v := by rw [ho 1 6 (by decide), oA 1 6 (by omega) (by decide), k6]
      refine r_iload (zdk oS_nextOf 9 rfl) rfl ?_
      refine r_aload_n (zdk oS_nextOf 10 rfl) rfl rfl ?_
      refine r_getr (kf := 4) (zdk oS_nextOf 11 rfl) rfl rfl (by decide) lF_S_57 rfl ?_
      refine r_geti (kf := 6) (zdk oS_nextOf 12 rfl) rfl rfl (by decide) lF_S_127 rfl ?_
      rw [e6]
      refine r_icmp_ge (tgt := 50) (zdk oS_nextOf 13 rfl) (by decide) (fun _ => ?_) (fun q9 => absurd ((Int32.le_refl (nI v))) q9)
      refine r_lload_n (zdk oS_nextOf 26 rfl) rfl rfl ?_
      refine r_lret (zdk oS_nextOf 27 rfl) rfl ?_
      exact hQ H (fun a j c1 c2 c3 => by rw [ho a j c3, oA a j c1 c2]) hl
    | succ m ih =>
      intro v H hv ho hl
      have oB : ∀ a j, ¬ (a = 16 ∧ j = 7) → a ≠ 17 → a ≠ 20 → H.1 a j = h.1 a j := fun a j c1 c2 c3 => by rw [ho a j c3, oA a j c1 c2]
      have e6 : H.1 1 6 = nI vars := by rw [oB 1 6 (by omega) (by decide) (by decide), k6]
      have hgH : zGr H n ph vars np r := hg.congr (fun a j ha => oB a j (by omega) (by omega) (by omega))
      obtain ⟨hckH, q2, q5, q6, qv, qm⟩ := hgH
      have hat : gAt H 16 p np (r / ph) := ⟨by rw [ho 16 7 (by decide), e7], q2, q6, hp, by omega, by omega⟩
      have hear : gEar H 16 k := by
        unfold gEar at hL ⊢
        rw [show H.1 (16 + 2) = L0.1 (16 + 2) from funext (fun j => ho 18 j (by decide)), ho (16 + 1) 6 (by decide), ho (16 + 1) 1 (by decide), ho (16 + 1) 2 (by decide), ho (16 + 1) 3 (by decide), ho (16 + 1) 4 (by decide), ho (16 + 1) 5 (by decide)]
        exact hL
      obtain ⟨f16, ef⟩ := hf v (by omega)
      have eP : pNxt (H.1 2) n vars ph np r (H.1 19) (H.1 18) (nI k) p v = nI (f v) := by
        rw [show H.1 2 = h.1 2 from funext (fun j => oB 2 j (by omega) (by decide) (by decide)), show H.1 19 = h.1 19 from funext (fun j => oB 19 j (by omega) (by decide) (by decide)), show H.1 18 = h.1 18 from funext (fun j => oB 18 j (by omega) (by decide) (by decide)), ef]
      refine r_iload (zdk oS_nextOf 9 rfl) rfl ?_
      refine r_aload_n (zdk oS_nextOf 10 rfl) rfl rfl ?_
      refine r_getr (kf := 4) (zdk oS_nextOf 11 rfl) rfl rfl (by decide) lF_S_57 rfl ?_
      refine r_geti (kf := 6) (zdk oS_nextOf 12 rfl) rfl rfl (by decide) lF_S_127 rfl ?_
      rw [e6]
      refine r_icmp_ge (tgt := 50) (zdk oS_nextOf 13 rfl) (by decide) (fun q9 => absurd q9 ((nI_ge (a := v) (b := vars) (by omega) (by omega)))) (fun _ => ?_)
      refine r_lload_n (zdk oS_nextOf 14 rfl) rfl rfl ?_
      refine r_aload_n (zdk oS_nextOf 15 rfl) rfl rfl ?_
      refine r_getr (kf := 5) (zdk oS_nextOf 16 rfl) rfl rfl (by decide) lF_S_66 rfl ?_
      refine r_iload (zdk oS_nextOf 17 rfl) rfl ?_
      refine r_callV1 (M' := mG_workOut) (zdk oS_nextOf 18 rfl) lM_S_155 vG_workOut rfl rfl (Nat.le_of_ble_eq_true rfl) rfl (spG_next_16 d H n ph vars np r p v k hckH hn hat hear hk q5 (by omega) (fun v hv => qv p v hp hv) (fun i hi => qm i (by omega))) ?_
      intro r1 h5 w5
      obtain ⟨er, o5, l5⟩ := w5
      rw [eP] at er
      cases er
      refine r_iload_n (zdk oS_nextOf 19 rfl) rfl rfl ?_
      refine r_iload (zdk oS_nextOf 20 rfl) rfl ?_
      refine r_callS3j (M' := mS_packed) (zdk oS_nextOf 21 rfl) lM_S_123 sS_packed (Nat.le_of_ble_eq_true rfl) rfl (spS_packed (d + 2) h5 (f v) p v (by omega) (by omega) (by omega)) ?_
      refine r_lor (zdk oS_nextOf 22 rfl) ?_
      rw [nJ_or]
      refine r_lstore_n (zdk oS_nextOf 23 rfl) rfl (Nat.le_of_ble_eq_true rfl) rfl ?_
      first | refine r_iinc (zdk oS_nextOf 24 rfl) rfl (zinc _) rfl ?_ | refine r_iinc (zdk oS_nextOf 24 rfl) rfl rfl rfl ?_
      refine r_goto (tgt := 14) (zdk oS_nextOf 25 rfl) (by decide) ?_
      exact ih (v + 1) h5 (by omega) (fun a j ha => by rw [o5 a j ha, ho a j ha]) (by rw [l5, hl])
  refine r_lconst (v := 0) (zdk oS_nextOf 5 rfl) (by decide) ?_
  refine r_lstore_n (zdk oS_nextOf 6 rfl) rfl (Nat.le_of_ble_eq_true rfl) rfl ?_
  refine r_iconst (v := 0) (zdk oS_nextOf 7 rfl) (by decide) ?_
  refine r_istore (zdk oS_nextOf 8 rfl) (Nat.le_of_ble_eq_true rfl) rfl ?_
  exact loop vars 0 L0 (by omega) (fun _ _ _ => rfl) lL
