/-! the run by hand: RoundLab$Run -/
theorem fHv_in {W : Nat → Int32} {n : Nat} : ∀ k v, v + k ≤ 1000 → fHv W n k v = -1 → ∀ i, i < k → fIn W n (2 + (v + i)) 0 15 = true := by
  intro k
  induction k with
  | zero => intro v _ _ i hi; omega
  | succ k ih =>
    intro v hb h i hi
    simp only [fHv] at h
    by_cases q : fIn W n (2 + v) 0 15 = true
    · rw [if_pos q] at h
      cases i with
      | zero => exact q
      | succ i => rw [show v + (i + 1) = v + 1 + i by omega]; exact ih (v + 1) (by omega) h i (by omega)
    · rw [if_neg q] at h
      exact absurd h (nI_nm1 (by omega))
/-- the ranges of a program without error -/
theorem fErr_rng {W : Nat → Int32} {n vars : Nat} (h : fErr W n = -1) (h1 : W 1 = nI vars) (hv : vars ≤ 5) : ∀ v, v < vars → 2 + v < n ∧ ∃ k, k ≤ 15 ∧ W (2 + v) = nI k := by
  have hh : fHe W n = -1 := by
    unfold fErr at h
    split at h
    · rename_i q; exact q
    · exact h
  unfold fHe at hh
  split at hh
  · split at hh
    · intro v hv2
      rw [h1, nI_clamp (by omega)] at hh
      have := fHv_in vars 0 (by omega) hh v hv2
      rw [Nat.zero_add] at this
      obtain ⟨a, k, -, b, c⟩ := fIn_nat (l := 0) (g := 15) (by decide) (by decide) this
      exact ⟨a, k, b, c⟩
    · exact absurd hh (by decide)
  · exact absurd hh (by decide)
theorem fTm_congr {m m' : Nat → Int32} {s v : Int32} : ∀ {n : Nat}, (∀ i, i < n → m i = m' i) → fTm m s v n = fTm m' s v n
  | 0, _ => rfl
  | n + 1, h => by simp only [fTm]; rw [fTm_congr (fun i hi => h i (by omega)), h n (by omega)]
theorem fMin_congr {m m' : Nat → Int32} {s : Int32} : ∀ {n : Nat}, (∀ i, i < n → m i = m' i) → fMin m s n = fMin m' s n
  | 0, _ => rfl
  | n + 1, h => by simp only [fMin]; rw [fMin_congr (fun i hi => h i (by omega)), h n (by omega)]
theorem fMax_congr {m m' : Nat → Int32} {s : Int32} : ∀ {n : Nat}, (∀ i, i < n → m i = m' i) → fMax m s n = fMax m' s n
  | 0, _ => rfl
  | n + 1, h => by simp only [fMax]; rw [fMax_congr (fun i hi => h i (by omega)), h n (by omega)]
theorem fMost_congr {m m' : Nat → Int32} {s : Int32} {N : Nat} (hN : ∀ i, i < N → m i = m' i) : ∀ {n : Nat}, (∀ i, i < n → m i = m' i) → fMost m s N n = fMost m' s N n
  | 0, _ => rfl
  | n + 1, h => by
    simp only [fMost]
    rw [fMost_congr hN (fun i hi => h i (by omega)), h n (by omega)]
    simp only [fTm_congr hN]
theorem c1P_congr {n : Nat} {m m' : Nat → Int32} {s w a : Int32} (hm : ∀ i, i < n → m i = m' i) : c1P n m s w a = c1P n m' s w a := by
  unfold c1P
  rw [fTm_congr hm]
  split
  · rfl
  · split
    · split
      · rename_i q; exact hm _ q.1
      · rfl
    · rfl
theorem c0P_congr {p n cy vars : Nat} {val val' m m' : Nat → Int32} {s w : Int32} {hears : Bool} (hv : vars ≤ 5) (hval : ∀ v, v < vars → val (5 * p + v) = val' (5 * p + v)) (hm : ∀ i, i < n → m i = m' i) (hc : fCan w vars hears = true) (h0 : fParts w = 0) : c0P p n cy val m s w = c0P p n cy val' m' s w := by
  rcases fCan_0 hc h0 hv with ⟨k, k1, rfl⟩ | ⟨k, k1, k2, rfl, -⟩ | ⟨k, k1, rfl⟩
  · rw [cP_num k1, cP_num k1]
  · have hk : k = 31 ∨ k = 32 ∨ k = 33 ∨ k = 34 ∨ k = 35 ∨ k = 36 ∨ k = 37 ∨ k = 38 ∨ k = 39 := by omega
    rcases hk with rfl | rfl | rfl | rfl | rfl | rfl | rfl | rfl | rfl
    · show nI p = nI p
      rfl
    · show nI n = nI n
      rfl
    · show nI (min cy 15) = nI (min cy 15)
      rfl
    · show nI (cy % n) = nI (cy % n)
      rfl
    · show nI (fHd s n) = nI (fHd s n)
      rfl
    · show fZ (fMin m s n) = fZ (fMin m' s n)
      rw [fMin_congr hm]
    · show fZ (fMax m s n) = fZ (fMax m' s n)
      rw [fMax_congr hm]
    · show fZ (fMost m s n n) = fZ (fMost m' s n n)
      rw [fMost_congr hm hm]
    · show (if fMost m s n n = -1 then 0 else nI (fTm m s (fMost m s n n) n)) = (if fMost m' s n n = -1 then 0 else nI (fTm m' s (fMost m' s n n) n))
      rw [fMost_congr hm hm, fTm_congr hm]
  · rw [cP_var (by omega), cP_var (by omega), hval k k1]
/-- an expression is there -/
def qH (W : Nat → Int32) (n vars ph : Nat) : Prop := ∀ e, e < ph * (vars + 1) → ∃ p q dd, qP W n vars e p q dd
theorem zChk_qH {h : zH} {n ph vars : Nat} (hc : zChk h n ph vars) : qH (h.1 2) n vars ph := fun e he => by
  obtain ⟨p, q, dd, a, -⟩ := hc.2.2.2.2.2.2 e he
  exact ⟨p, q, dd, a⟩
theorem qH_lt {vars ph r v : Nat} (hp : 1 ≤ ph) (hv : v < vars) : r % ph * (vars + 1) + (v + 1) < ph * (vars + 1) ∧ (r % ph * (vars + 1) + (v + 1)) % (vars + 1) = v + 1 ∧ r % ph * (vars + 1) < ph * (vars + 1) := by
  have hm : r % ph < ph := Nat.mod_lt _ (by omega)
  have h1 : (r % ph + 1) * (vars + 1) ≤ ph * (vars + 1) := Nat.mul_le_mul_right _ hm
  rw [Nat.succ_mul] at h1
  refine ⟨by omega, ?_, by omega⟩
  rw [Nat.mul_comm, Nat.mul_add_mod]
  exact Nat.mod_eq_of_lt (by omega)
theorem pNxt_congr {W : Nat → Int32} {n vars ph np r p v : Nat} {val val' m m' : Nat → Int32} {s : Int32} (hq : qH W n vars ph) (h1 : 1 ≤ ph) (hv5 : vars ≤ 5) (hv : v < vars) (hval : ∀ v, v < vars → val (5 * p + v) = val' (5 * p + v)) (hm : ∀ i, i < np → m i = m' i) : pNxt W n vars ph np r val m s p v = pNxt W n vars ph np r val' m' s p v := by
  obtain ⟨a, b, -⟩ := qH_lt (r := r) h1 hv
  obtain ⟨p0, q0, d0, hqp⟩ := hq _ a
  unfold pNxt
  rw [vE_congr hqp (fun w hc h0 => c0P_congr hv5 hval hm hc h0) (fun w a _ _ => c1P_congr hm)]
theorem pMsg_congr {W : Nat → Int32} {n vars ph np r p : Nat} {val val' : Nat → Int32} (hq : qH W n vars ph) (h1 : 1 ≤ ph) (hv2 : 2 ≤ vars) (hv5 : vars ≤ 5) (hval : ∀ v, v < vars → val (5 * p + v) = val' (5 * p + v)) : pMsg W n vars ph np r val p = pMsg W n vars ph np r val' p := by
  obtain ⟨-, -, a⟩ := qH_lt (r := r) (v := 0) h1 (show 0 < vars by omega)
  obtain ⟨p0, q0, d0, hqp⟩ := hq _ a
  unfold pMsg
  exact vE_congr hqp (fun w hc h0 => c0P_congr hv5 hval (fun _ _ => rfl) hc h0) (fun _ _ _ _ => rfl)
theorem pMsg_good {W : Nat → Int32} {n vars ph np r p : Nat} {val : Nat → Int32} (hq : qH W n vars ph) (h1 : 1 ≤ ph) (hv2 : 2 ≤ vars) (hv5 : vars ≤ 5) (hp : p < np) (hn : np ≤ 7) (hval : ∀ v, v < vars → fGood (val (5 * p + v))) : fGood (pMsg W n vars ph np r val p) := by
  obtain ⟨-, -, a⟩ := qH_lt (r := r) (v := 0) h1 (show 0 < vars by omega)
  obtain ⟨p0, q0, d0, hqp⟩ := hq _ a
  exact (vE_good hqp (cP_ok hp hn hv5 hval (fun _ _ => nI_good (k := 0) (by decide)))).1
/-- a next value is within its range -/
theorem pNxt_rng {W : Nat → Int32} {n vars ph np r p v : Nat} {val m : Nat → Int32} {s : Int32} (hq : qH W n vars ph) (h1 : 1 ≤ ph) (hv5 : vars ≤ 5) (hp : p < np) (hn : np ≤ 7) (hv : v < vars) (hval : ∀ v, v < vars → fGood (val (5 * p + v))) (hm : ∀ i, i < np → fGood (m i)) {R : Nat} (hR : R ≤ 15) (hW : W (2 + v) = nI R) : ∃ k, k ≤ R ∧ pNxt W n vars ph np r val m s p v = nI k := by
  obtain ⟨a, b, -⟩ := qH_lt (r := r) h1 hv
  obtain ⟨p0, q0, d0, hqp⟩ := hq _ a
  obtain ⟨hg, -⟩ := vE_good (c0 := c0P p np (r / ph) val m s) (c1 := c1P np m s) hqp (cP_ok hp hn hv5 hval hm)
  obtain ⟨k, hk, e⟩ := fGood_nat hg
  unfold pNxt
  rw [hW, e, nI_min (by omega) (by omega)]
  exact ⟨min k R, by omega, rfl⟩
theorem spG_next_9 (d : Nat) (H : zH) (n ph vars np r p v k : Nat) (hck : zChk H n ph vars) (hn : n ≤ 400) (hg : gAt H 9 p np (r / ph)) (he : gEar H 9 k) (hk : k < 2 ^ np) (hf : H.1 9 5 = nI (r % ph)) (hv : v < vars) (hval : ∀ v, v < vars → fGood (H.1 12 (5 * p + v))) (hm : ∀ i, i < np → fGood (H.1 11 i)) :
    zSP (d + 2) 0 0 mG_workOut [.inr (.inr 9), .inl (nI v)] H (fun r0 h' => r0 = .inl (some (.inl (pNxt (H.1 2) n vars ph np r (H.1 12) (H.1 11) (nI k) p v))) ∧ (∀ a j, a ≠ 13 → h'.1 a j = H.1 a j) ∧ h'.2 = H.2) := by
  obtain ⟨k5, k6, p1, p4, v2, v5, hex⟩ := id hck
  obtain ⟨a1, a2, a3, a4, a5, a6⟩ := id hg
  obtain ⟨q1, q2, -⟩ := qH_lt (r := r) p1 hv
  obtain ⟨p0, q0, d0, hqp, -⟩ := hex _ q1
  have cg0 : ∀ w, fCan w vars (decide (¬ v + 1 = 0)) = true → fParts w = 0 → gc0 H 9 w = c0P p np (r / ph) (H.1 12) (H.1 11) (nI k) w := fun w hc h0 => gcP_hear hg he hk v5 hc h0
  have cg1 : ∀ w a, fCan w vars (decide (¬ v + 1 = 0)) = true → fParts w = 1 → gc1 H 9 w a = c1P np (H.1 11) (nI k) w a := fun w a _ _ => gcP_hear1 he hk a5
  have hok := fOk_congr cg0 cg1 (cP_ok (hears := decide (¬ v + 1 = 0)) a4 a5 v5 hval hm)
  have := spG_workOut_9 d H n ph vars (r % ph) p (v + 1) hck hn hf (Nat.mod_lt _ (by omega)) a1 (by omega) (by rw [a2]; exact nI_ne0 (by omega) (by omega)) (by omega) hok
  rw [nI_pred] at this
  refine this.mono (fun r0 h' hw => ?_)
  obtain ⟨x, hx, hgx, er, ho1, hl1⟩ := zWO_v hw
  refine ⟨?_, ho1, hl1⟩
  rw [if_neg (show ¬ v + 1 = 0 by omega), show 1 + (v + 1) = 2 + v by omega] at er
  rw [er, hx]
  unfold pNxt
  rw [vE_congr hqp (fun w hc h0 => cg0 w (by rw [q2] at hc; exact hc) h0) (fun w a hc h0 => cg1 w a (by rw [q2] at hc; exact hc) h0)]
theorem gEar_listen_9 (h : zH) (k : Nat) : gEar (zListen h 10 (h.1 11) (nI k) 7) 9 k := by
  have e2 : (zListen h 10 (h.1 11) (nI k) 7).1 (9 + 2) = h.1 11 := by
    funext j
    exact zEars_o (by decide)
  unfold gEar
  rw [e2]
  unfold zListen
  refine ⟨?_, ?_, ?_, ?_, ?_, ?_⟩ <;> simp [zEars, zp1]
theorem spG_next_16 (d : Nat) (H : zH) (n ph vars np r p v k : Nat) (hck : zChk H n ph vars) (hn : n ≤ 400) (hg : gAt H 16 p np (r / ph)) (he : gEar H 16 k) (hk : k < 2 ^ np) (hf : H.1 16 5 = nI (r % ph)) (hv : v < vars) (hval : ∀ v, v < vars → fGood (H.1 19 (5 * p + v))) (hm : ∀ i, i < np → fGood (H.1 18 i)) :
    zSP (d + 2) 0 0 mG_workOut [.inr (.inr 16), .inl (nI v)] H (fun r0 h' => r0 = .inl (some (.inl (pNxt (H.1 2) n vars ph np r (H.1 19) (H.1 18) (nI k) p v))) ∧ (∀ a j, a ≠ 20 → h'.1 a j = H.1 a j) ∧ h'.2 = H.2) := by
  obtain ⟨k5, k6, p1, p4, v2, v5, hex⟩ := id hck
  obtain ⟨a1, a2, a3, a4, a5, a6⟩ := id hg
  obtain ⟨q1, q2, -⟩ := qH_lt (r := r) p1 hv
  obtain ⟨p0, q0, d0, hqp, -⟩ := hex _ q1
  have cg0 : ∀ w, fCan w vars (decide (¬ v + 1 = 0)) = true → fParts w = 0 → gc0 H 16 w = c0P p np (r / ph) (H.1 19) (H.1 18) (nI k) w := fun w hc h0 => gcP_hear hg he hk v5 hc h0
  have cg1 : ∀ w a, fCan w vars (decide (¬ v + 1 = 0)) = true → fParts w = 1 → gc1 H 16 w a = c1P np (H.1 18) (nI k) w a := fun w a _ _ => gcP_hear1 he hk a5
  have hok := fOk_congr cg0 cg1 (cP_ok (hears := decide (¬ v + 1 = 0)) a4 a5 v5 hval hm)
  have := spG_workOut_16 d H n ph vars (r % ph) p (v + 1) hck hn hf (Nat.mod_lt _ (by omega)) a1 (by omega) (by rw [a2]; exact nI_ne0 (by omega) (by omega)) (by omega) hok
  rw [nI_pred] at this
  refine this.mono (fun r0 h' hw => ?_)
  obtain ⟨x, hx, hgx, er, ho1, hl1⟩ := zWO_v hw
  refine ⟨?_, ho1, hl1⟩
  rw [if_neg (show ¬ v + 1 = 0 by omega), show 1 + (v + 1) = 2 + v by omega] at er
  rw [er, hx]
  unfold pNxt
  rw [vE_congr hqp (fun w hc h0 => cg0 w (by rw [q2] at hc; exact hc) h0) (fun w a hc h0 => cg1 w a (by rw [q2] at hc; exact hc) h0)]
theorem gEar_listen_16 (h : zH) (k : Nat) : gEar (zListen h 17 (h.1 18) (nI k) 7) 16 k := by
  have e2 : (zListen h 17 (h.1 18) (nI k) 7).1 (16 + 2) = h.1 18 := by
    funext j
    exact zEars_o (by decide)
  unfold gEar
  rw [e2]
  unfold zListen
  refine ⟨?_, ?_, ?_, ?_, ?_, ?_⟩ <;> simp [zEars, zp1]
