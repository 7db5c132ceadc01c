/-! all processes speak; one turns to its set -/
def zfill (h : zH) (q n : Nat) (v : Int32) : zH := (fun p => if p = q then fun j => if j < n then v else h.1 p j else h.1 p, h.2)
theorem zf1 {h : zH} {q n p j : Nat} {v : Int32} : (zfill h q n v).1 p j = if p = q ∧ j < n then v else h.1 p j := by
  by_cases hp : p = q
  · simp [zfill, hp]
  · simp [zfill, hp]
theorem zf2 {h : zH} {q n : Nat} {v : Int32} : (zfill h q n v).2 = h.2 := rfl
theorem zfill_0 {h : zH} {q : Nat} {v : Int32} : zfill h q 0 v = h := by
  refine Prod.ext ?_ rfl
  funext p j
  rw [zf1, if_neg (by omega)]
theorem zfill_s {h : zH} {q n : Nat} {v : Int32} : zput (zfill h q n v) q n v = zfill h q (n + 1) v := by
  refine Prod.ext ?_ rfl
  funext p j
  simp only [zp1, zf1]
  by_cases hp : p = q
  · by_cases h1 : j = n
    · rw [if_pos ⟨hp, h1⟩, if_pos ⟨hp, by omega⟩]
    · rw [if_neg (fun z => h1 z.2)]
      by_cases h2 : j < n
      · rw [if_pos ⟨hp, h2⟩, if_pos ⟨hp, by omega⟩]
      · rw [if_neg (fun z => h2 z.2), if_neg (fun z => by omega)]
  · rw [if_neg (fun z => hp z.1), if_neg (fun z => hp z.1), if_neg (fun z => hp z.1)]
theorem spA_fill (d : Nat) (h : zH) (q n : Nat) (v : Int32) (hq : zS[q]? = some (.inl (false, n))) (hn : n < 2 ^ 31) : zSP d 0 0 mA_fill [.inr (.inr q), .inl v] h (zU (zfill h q n v)) := by
  have loop : ∀ k i, i + k = n → zMC false d 0 0 0 0 mA_fill (zU (zfill h q n v)) 5 [some (.inr (.inr q)), some (.inl v), some (.inl (nI i)), some (.inl (nI n))] [] (zfill h q i v) := by
    intro k
    induction k with
    | zero =>
      intro i hi
      have e : i = n := by omega
      subst e
      refine r_iload_n (zdk oA_fill 5 rfl) rfl rfl ?_
      refine r_iload_n (zdk oA_fill 6 rfl) rfl rfl ?_
      refine r_icmp_ge (tgt := 20) (zdk oA_fill 7 rfl) (by decide) (fun _ => ?_) (fun q9 => absurd ((Int32.le_refl (nI i))) q9)
      refine r_vret (zdk oA_fill 14 rfl) rfl ?_
      exact zUi rfl
    | succ k ih =>
      intro i hi
      have ei : (nI i).toNatClampNeg = i := nI_clamp (by omega)
      refine r_iload_n (zdk oA_fill 5 rfl) rfl rfl ?_
      refine r_iload_n (zdk oA_fill 6 rfl) rfl rfl ?_
      refine r_icmp_ge (tgt := 20) (zdk oA_fill 7 rfl) (by decide) (fun q9 => absurd q9 ((nI_ge (a := i) (b := n) (by omega) hn))) (fun _ => ?_)
      refine r_aload_n (zdk oA_fill 8 rfl) rfl rfl ?_
      refine r_iload_n (zdk oA_fill 9 rfl) rfl rfl ?_
      refine r_iload_n (zdk oA_fill 10 rfl) rfl rfl ?_
      refine r_iast (zdk oA_fill 11 rfl) hq (vp_in_nI (n := i) (by omega) hn) ?_
      first | refine r_iinc (zdk oA_fill 12 rfl) rfl (zinc _) rfl ?_ | refine r_iinc (zdk oA_fill 12 rfl) rfl rfl rfl ?_
      refine r_goto (tgt := 5) (zdk oA_fill 13 rfl) (by decide) ?_
      rw [ei, zfill_s]
      exact ih (i + 1) (by omega)
  refine zmet (by decide +kernel) (Nat.le_of_ble_eq_true rfl) ?_
  refine r_iconst (v := 0) (zdk oA_fill 0 rfl) (by decide) ?_
  refine r_istore_n (zdk oA_fill 1 rfl) rfl (Nat.le_of_ble_eq_true rfl) rfl ?_
  refine r_aload_n (zdk oA_fill 2 rfl) rfl rfl ?_
  refine r_alen (zdk oA_fill 3 rfl) hq rfl ?_
  refine r_istore_n (zdk oA_fill 4 rfl) rfl (Nat.le_of_ble_eq_true rfl) rfl ?_
  have l0 := loop n 0 (by omega)
  rw [zfill_0] at l0
  exact l0
/-- the picture's messages and next values -/
def pMsg (W : Nat → Int32) (n vars ph np r : Nat) (val : Nat → Int32) (p : Nat) : Int32 := vE W n vars (r % ph * (vars + 1)) (c0P p np (r / ph) val (fun _ => 0) 0) (c1P np (fun _ => 0) 0)
def pNxt (W : Nat → Int32) (n vars ph np r : Nat) (val m : Nat → Int32) (s : Int32) (p v : Nat) : Int32 :=
  if W (2 + v) < vE W n vars (r % ph * (vars + 1) + (v + 1)) (c0P p np (r / ph) val m s) (c1P np m s) then W (2 + v) else vE W n vars (r % ph * (vars + 1) + (v + 1)) (c0P p np (r / ph) val m s) (c1P np m s)
theorem fCan_1f {w : Int32} {vars : Nat} (h : fCan w vars false = true) (h1 : fParts w = 1) (hv : vars ≤ 5) : w = 29 := by
  unfold fParts at h1
  simp only [fCan, Bool.or_eq_true, Bool.and_eq_true, decide_eq_true_eq] at h
  apply Int32.toInt_inj.mp
  simp only [Int32.reduceToInt]
  split at h1
  · omega
  · split at h1
    · omega
    · split at h1
      · rcases h with (h | h) | (h | h)
        · omega
        · omega
        · omega
        · simp at h
      · omega
theorem cP_num {p n cy k : Nat} {val m : Nat → Int32} {s : Int32} (k1 : k ≤ 15) : c0P p n cy val m s (nI k) = nI k := by
  have e : ∀ j, 31 ≤ j → j ≤ 39 → ¬ nI k = nI j := fun j j1 j2 z => by have := (nI_eq (by omega) (by omega)).mp z; omega
  unfold c0P
  rw [if_neg (show ¬ nI k = 31 from e 31 (by decide) (by decide)), if_neg (show ¬ nI k = 32 from e 32 (by decide) (by decide)), if_neg (show ¬ nI k = 33 from e 33 (by decide) (by decide)), if_neg (show ¬ nI k = 34 from e 34 (by decide) (by decide)), if_neg (show ¬ nI k = 35 from e 35 (by decide) (by decide)), if_neg (show ¬ nI k = 36 from e 36 (by decide) (by decide)), if_neg (show ¬ nI k = 37 from e 37 (by decide) (by decide)), if_neg (show ¬ nI k = 38 from e 38 (by decide) (by decide)), if_neg (show ¬ nI k = 39 from e 39 (by decide) (by decide)), if_pos (show nI k < 100 from nI_lt (a := k) (b := 100) (by omega) (by decide))]
theorem cP_var {p n cy k : Nat} {val m : Nat → Int32} {s : Int32} (k1 : k < 5) : c0P p n cy val m s (nI (100 + k)) = val (5 * p + k) := by
  have e : ∀ j, 31 ≤ j → j ≤ 39 → ¬ nI (100 + k) = nI j := fun j j1 j2 z => by have := (nI_eq (by omega) (by omega)).mp z; omega
  have e2 : (nI (100 + k) - 100).toNatClampNeg = k := by
    rw [show (100 : Int32) = nI 100 from rfl, pk_sub (by omega), nI_clamp (by omega)]
    omega
  unfold c0P
  rw [if_neg (show ¬ nI (100 + k) = 31 from e 31 (by decide) (by decide)), if_neg (show ¬ nI (100 + k) = 32 from e 32 (by decide) (by decide)), if_neg (show ¬ nI (100 + k) = 33 from e 33 (by decide) (by decide)), if_neg (show ¬ nI (100 + k) = 34 from e 34 (by decide) (by decide)), if_neg (show ¬ nI (100 + k) = 35 from e 35 (by decide) (by decide)), if_neg (show ¬ nI (100 + k) = 36 from e 36 (by decide) (by decide)), if_neg (show ¬ nI (100 + k) = 37 from e 37 (by decide) (by decide)), if_neg (show ¬ nI (100 + k) = 38 from e 38 (by decide) (by decide)), if_neg (show ¬ nI (100 + k) = 39 from e 39 (by decide) (by decide)), if_neg (show ¬ nI (100 + k) < 100 from nI_nlt (a := 100 + k) (b := 100) (by omega) (by omega)), e2]
theorem gc_num {h : zH} {G k : Nat} (k1 : k ≤ 15) : gc0 h G (nI k) = nI k := by
  have e : ∀ j, 31 ≤ j → j ≤ 39 → ¬ nI k = nI j := fun j j1 j2 z => by have := (nI_eq (by omega) (by omega)).mp z; omega
  unfold gc0
  rw [if_neg (show ¬ nI k = 31 from e 31 (by decide) (by decide)), if_neg (show ¬ nI k = 32 from e 32 (by decide) (by decide)), if_neg (show ¬ nI k = 33 from e 33 (by decide) (by decide)), if_neg (show ¬ nI k = 34 from e 34 (by decide) (by decide)), if_neg (show ¬ nI k = 35 from e 35 (by decide) (by decide)), if_neg (show ¬ nI k = 36 from e 36 (by decide) (by decide)), if_neg (show ¬ nI k = 37 from e 37 (by decide) (by decide)), if_neg (show ¬ nI k = 38 from e 38 (by decide) (by decide)), if_neg (show ¬ nI k = 39 from e 39 (by decide) (by decide)), if_pos (show nI k < 100 from nI_lt (a := k) (b := 100) (by omega) (by decide))]
theorem gc_var {h : zH} {G k me : Nat} (k1 : k < 5) (hme : h.1 G 7 = nI me) (h7 : me < 7) : gc0 h G (nI (100 + k)) = h.1 (G + 3) (5 * me + k) := by
  have e : ∀ j, 31 ≤ j → j ≤ 39 → ¬ nI (100 + k) = nI j := fun j j1 j2 z => by have := (nI_eq (by omega) (by omega)).mp z; omega
  have e2 : (h.1 G 7 * 5 + (nI (100 + k) - 100)).toNatClampNeg = 5 * me + k := by
    rw [hme, show (100 : Int32) = nI 100 from rfl, pk_sub (by omega), show (5 : Int32) = nI 5 from rfl, pk_mul, nI_add, nI_clamp (by omega)]
    omega
  unfold gc0
  rw [if_neg (show ¬ nI (100 + k) = 31 from e 31 (by decide) (by decide)), if_neg (show ¬ nI (100 + k) = 32 from e 32 (by decide) (by decide)), if_neg (show ¬ nI (100 + k) = 33 from e 33 (by decide) (by decide)), if_neg (show ¬ nI (100 + k) = 34 from e 34 (by decide) (by decide)), if_neg (show ¬ nI (100 + k) = 35 from e 35 (by decide) (by decide)), if_neg (show ¬ nI (100 + k) = 36 from e 36 (by decide) (by decide)), if_neg (show ¬ nI (100 + k) = 37 from e 37 (by decide) (by decide)), if_neg (show ¬ nI (100 + k) = 38 from e 38 (by decide) (by decide)), if_neg (show ¬ nI (100 + k) = 39 from e 39 (by decide) (by decide)), if_neg (show ¬ nI (100 + k) < 100 from nI_nlt (a := 100 + k) (b := 100) (by omega) (by omega)), e2]
/-- the class's group, process 'me' of np, in cycle cy -/
def gAt (h : zH) (G me np cy : Nat) : Prop := h.1 G 7 = nI me ∧ h.1 G 2 = nI np ∧ h.1 G 6 = nI cy ∧ me < np ∧ np ≤ 7 ∧ cy < 2 ^ 30
theorem gcP_low {h : zH} {G me np cy vars : Nat} {w : Int32} {hears : Bool} {m : Nat → Int32} {s : Int32} (hg : gAt h G me np cy) (hv : vars ≤ 5) (hc : fCan w vars hears = true) (h0 : fParts w = 0) (hl : hears = false ∨ w.toInt ≤ 34 ∨ 100 ≤ w.toInt) : gc0 h G w = c0P me np cy (h.1 (G + 3)) m s w := by
  obtain ⟨a1, a2, a3, a4, a5, a6⟩ := hg
  rcases fCan_0 hc h0 hv with ⟨k, k1, rfl⟩ | ⟨k, k1, k2, rfl, k3⟩ | ⟨k, k1, rfl⟩
  · rw [gc_num k1, cP_num k1]
  · have k4 : k ≤ 34 := by
      rcases hl with hl | hl | hl
      · rcases k3 with k3 | k3
        · rw [hl] at k3; cases k3
        · exact k3
      · rw [nI_toInt (by omega)] at hl; omega
      · rw [nI_toInt (by omega)] at hl; omega
    have hk : k = 31 ∨ k = 32 ∨ k = 33 ∨ k = 34 := by omega
    rcases hk with rfl | rfl | rfl | rfl
    · exact a1
    · exact a2
    · show (if 15 < h.1 G 6 then 15 else h.1 G 6) = nI (min cy 15)
      rw [a3, show (15 : Int32) = nI 15 from rfl, nI_min (by omega) (by omega)]
    · show h.1 G 6 - h.1 G 6 / h.1 G 2 * h.1 G 2 = nI (cy % np)
      rw [a3, a2, pk_rem (by omega) (by omega) (by omega)]
  · rw [gc_var (by omega) a1 (by omega), cP_var (by omega)]
theorem spG_turnTo_9 (d : Nat) (h : zH) (p s : Int32) (hm : ∀ i, i < 7 → fGood (h.1 11 i)) : zSP (d + 2) 0 0 mG_turnTo [.inr (.inr 9), .inl p, .inl s] h (zU (zListen (zput h 9 7 p) 10 (h.1 11) s 7)) := by
  suffices main : ∀ K, (∀ x, x = zListen (zput h 9 7 p) 10 (h.1 11) s 7 → K (.inl none) x) → zSP (d + 2) 0 0 mG_turnTo [.inr (.inr 9), .inl p, .inl s] h K from main _ (fun x hx => zUi hx)
  intro K hK
  have e : (zput h 9 7 p).1 11 = h.1 11 := by funext j; simp [zp1]
  refine zmet (by decide +kernel) (Nat.le_of_ble_eq_true rfl) ?_
  refine r_aload_n (zdk oG_turnTo 0 rfl) rfl rfl ?_
  refine r_iload_n (zdk oG_turnTo 1 rfl) rfl rfl ?_
  refine r_puti (kf := 7) (zdk oG_turnTo 2 rfl) rfl rfl (by decide) lF_G_44 rfl rfl (by decide +kernel) (Or.inl rfl) ?_
  refine r_aload_n (zdk oG_turnTo 3 rfl) rfl rfl ?_
  refine r_getr (kf := 0) (zdk oG_turnTo 4 rfl) rfl rfl (by decide) lF_G_12 rfl ?_
  refine r_iload_n (zdk oG_turnTo 5 rfl) rfl rfl ?_
  refine r_callV1v (M' := mE_listen) (zdk oG_turnTo 6 rfl) lM_G_54 vE_listen rfl rfl (Nat.le_of_ble_eq_true rfl) rfl (spE_listen_10 d (zput h 9 7 p) s (by rw [e]; exact hm)) ?_
  rw [e]
  refine r_vret (zdk oG_turnTo 7 rfl) rfl ?_
  exact hK _ rfl
theorem spG_turnTo_16 (d : Nat) (h : zH) (p s : Int32) (hm : ∀ i, i < 7 → fGood (h.1 18 i)) : zSP (d + 2) 0 0 mG_turnTo [.inr (.inr 16), .inl p, .inl s] h (zU (zListen (zput h 16 7 p) 17 (h.1 18) s 7)) := by
  suffices main : ∀ K, (∀ x, x = zListen (zput h 16 7 p) 17 (h.1 18) s 7 → K (.inl none) x) → zSP (d + 2) 0 0 mG_turnTo [.inr (.inr 16), .inl p, .inl s] h K from main _ (fun x hx => zUi hx)
  intro K hK
  have e : (zput h 16 7 p).1 18 = h.1 18 := by funext j; simp [zp1]
  refine zmet (by decide +kernel) (Nat.le_of_ble_eq_true rfl) ?_
  refine r_aload_n (zdk oG_turnTo 0 rfl) rfl rfl ?_
  refine r_iload_n (zdk oG_turnTo 1 rfl) rfl rfl ?_
  refine r_puti (kf := 7) (zdk oG_turnTo 2 rfl) rfl rfl (by decide) lF_G_44 rfl rfl (by decide +kernel) (Or.inl rfl) ?_
  refine r_aload_n (zdk oG_turnTo 3 rfl) rfl rfl ?_
  refine r_getr (kf := 0) (zdk oG_turnTo 4 rfl) rfl rfl (by decide) lF_G_12 rfl ?_
  refine r_iload_n (zdk oG_turnTo 5 rfl) rfl rfl ?_
  refine r_callV1v (M' := mE_listen) (zdk oG_turnTo 6 rfl) lM_G_54 vE_listen rfl rfl (Nat.le_of_ble_eq_true rfl) rfl (spE_listen_17 d (zput h 16 7 p) s (by rw [e]; exact hm)) ?_
  rw [e]
  refine r_vret (zdk oG_turnTo 7 rfl) rfl ?_
  exact hK _ rfl
