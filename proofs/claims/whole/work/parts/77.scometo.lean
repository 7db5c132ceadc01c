/-! the class's search: a state is come to -/
def xBt (n : Nat) (pa : Nat → Int32) (co : Nat → Nat) : Nat → Nat → Prop
  | 0, j => j < n ∧ co j < 64
  | l + 1, j => j < n ∧ ∃ q, q < 200 ∧ pa j = nI q ∧ xBt n pa co l q
theorem xBt.lt {n : Nat} {pa : Nat → Int32} {co : Nat → Nat} : ∀ {l j : Nat}, xBt n pa co l j → j < n
  | 0, _, h => h.1
  | _ + 1, _, h => h.1
theorem xBt.put {n : Nat} {pa : Nat → Int32} {co : Nat → Nat} {a : Int32} {c : Nat} : ∀ {l j : Nat}, xBt n pa co l j → xBt (n + 1) (fun j => if j = n then a else pa j) (fun j => if j = n then c else co j) l j
  | 0, j, h => ⟨Nat.lt_succ_of_lt h.1, by
    have h1 := h.1
    show (if j = n then c else co j) < 64
    rw [if_neg (by omega)]; exact h.2⟩
  | l + 1, j, h => by
    obtain ⟨h1, q, h2, h3, h4⟩ := h
    refine ⟨Nat.lt_succ_of_lt h1, q, h2, ?_, xBt.put h4⟩
    show (if j = n then a else pa j) = nI q
    rw [if_neg (by omega), h3]
theorem wI_bt {n : Nat} {pa : Nat → Int32} {co : Nat → Nat} {i c : Nat} (hn : n ≤ 200) : ∀ (k l : Nat), xBt n pa co (k + l) i → ∃ q, q < n ∧ (wI pa co i c k).1 = nI q ∧ xBt n pa co l q
  | 0, l, h => ⟨i, by rw [Nat.zero_add] at h; exact h.lt, rfl, by rw [Nat.zero_add] at h; exact h⟩
  | k + 1, l, h => by
    obtain ⟨q, h1, h2, h3⟩ := wI_bt (c := c) hn k (l + 1) (by rw [show k + (l + 1) = k + 1 + l by omega]; exact h)
    obtain ⟨-, q', g2, g3, g4⟩ := h3
    refine ⟨q', g4.lt, ?_, g4⟩
    show pa _ = _
    rw [h2, nI_clamp (by omega), g3]
def xJv (f lo r : Nat) (s : xZ) : Prop := f ≤ lo ∧ lo ≤ s.n ∧ s.n ≤ 200 ∧ (∀ j, f ≤ j → j < lo → xBt s.n s.pa s.co r j) ∧ (∀ j, lo ≤ j → j < s.n → xBt s.n s.pa s.co (r + 1) j)
theorem xTry_jv {f lo r i K c : Nat} {s : xZ} (h : xJv f lo r s) (h1 : f ≤ i) (h2 : i < lo) : xJv f lo r (xTry lo K (nI i) c s) := by
  obtain ⟨a1, a2, a3, a4, a5⟩ := id h
  unfold xTry
  by_cases hh : xHas s lo K
  · rw [if_pos hh]; exact h
  · rw [if_neg hh]
    by_cases hn : s.n = 200
    · rw [if_pos hn]; exact h
    · rw [if_neg hn]
      refine ⟨a1, Nat.le_succ_of_le a2, by show s.n + 1 ≤ 200; omega, fun j j1 j2 => (a4 j j1 j2).put, fun j j1 j2 => ?_⟩
      have j2' : j < s.n + 1 := j2
      by_cases e : j = s.n
      · refine ⟨j2', i, by omega, ?_, (a4 i h1 h2).put⟩
        show (if j = s.n then nI i else s.pa j) = nI i
        rw [if_pos e]
      · exact (a5 j j1 (by omega)).put
theorem xGo_jv {P : xP} {f lo r i c : Nat} {s : xZ} (h : xJv f lo r s) (h1 : f ≤ i) (h2 : i < lo) : xJv f lo r (xGo P r lo i s c) := by
  unfold xGo
  split
  · exact h
  · split
    · exact h
    · split
      · exact h
      · exact xTry_jv h h1 h2
/-- what the path is, when a violation is there -/
def zEndC (P : xP) (s : xZ) (h h' : zH) : Prop := match s.e with
  | some (some (_, i, c, R)) => h'.1 14 1 = nI R ∧ h'.1 14 2 = nI (P.np * (R + 1)) ∧ R ≤ 5 ∧ zPath P.np s.pa s.co i c R (h'.1 15)
  | _ => h'.1 14 1 = h.1 14 1 ∧ h'.1 14 2 = h.1 14 2 ∧ ∀ j, h'.1 15 j = h.1 15 j
theorem spS_comeTo (d : Nat) (h : zH) (P : xP) (hP : xPok P) (s : xZ) (lo i c r : Nat) (hs : zCS P lo s h) (he : s.e = none) (hn : h.1 14 13 = nI P.np) (hi : i < s.n) (hr : r < 5) (hat : xBt s.n s.pa s.co r i) (hc : c < 512) (hL : xLd P.np c P.kd = true) :
    zSP (d + 3) 0 0 mS_comeTo [.inr (.inr 14), .inr (.inl (nJ (xNx P r (s.K i) c))), .inl (nI i), .inl (nI c), .inl (nI (r + 1))] h (fun r0 h' => r0 = .inl none ∧ zCS P lo (xGo P r lo i s c) h' ∧ zEndC P (xGo P r lo i s c) h h' ∧ (∀ a j, ¬ (a = 14 ∧ (j = 0 ∨ j = 1 ∨ j = 2 ∨ j = 14 ∨ j = 15)) → a ≠ 15 → a ≠ 22 → a ≠ 23 → a ≠ 24 → h'.1 a j = h.1 a j) ∧ (∀ a j, a ≠ 21 → h'.2 a j = h.2 a j)) := by
  suffices main : ∀ Q : zR → zH → Prop, (∀ h', zCS P lo (xGo P r lo i s c) h' → zEndC P (xGo P r lo i s c) h h' → (∀ a j, ¬ (a = 14 ∧ (j = 0 ∨ j = 1 ∨ j = 2 ∨ j = 14 ∨ j = 15)) → a ≠ 15 → a ≠ 22 → a ≠ 23 → a ≠ 24 → h'.1 a j = h.1 a j) → (∀ a j, a ≠ 21 → h'.2 a j = h.2 a j) → Q (.inl none) h') → zSP (d + 3) 0 0 mS_comeTo [.inr (.inr 14), .inr (.inl (nJ (xNx P r (s.K i) c))), .inl (nI i), .inl (nI c), .inl (nI (r + 1))] h Q from main _ (fun h' a b c e => ⟨rfl, a, b, c, e⟩)
  intro Q hQ
  obtain ⟨hcl, htb, hen, hlo⟩ := id hs
  obtain ⟨c0, n200, cs⟩ := id hcl
  obtain ⟨c21, c22, c23, cok, cco⟩ := cs i hi
  have n1 := hP.n1
  have n3 := hP.n3
  have ok' := xNx_ok hP (r := r) (c := c) cok
  have etop := xNx_top hP (r := r) (K := s.K i) (c := c)
  refine zmet (by decide +kernel) (Nat.le_of_ble_eq_true rfl) ?_
  refine r_aload_n (zdk oS_comeTo 0 rfl) rfl rfl ?_
  refine r_aload_n (zdk oS_comeTo 1 rfl) rfl rfl ?_
  refine r_getr (kf := 6) (zdk oS_comeTo 2 rfl) rfl rfl (by decide) lF_S_25 rfl ?_
  refine r_iload_n (zdk oS_comeTo 3 rfl) rfl rfl ?_
  refine r_lald (zdk oS_comeTo 4 rfl) rfl (vp_in_nI (n := i) (by omega) (by decide)) ?_
  rw [nI_clamp (n := i) (by omega), c21]
  refine r_lload_n (zdk oS_comeTo 5 rfl) rfl rfl ?_
  refine r_callV2i (M' := mS_violationOf) (zdk oS_comeTo 6 rfl) lM_S_158 vS_violationOf rfl rfl (Nat.le_of_ble_eq_true rfl) rfl (spS_violationOf (d + 1) h P.np (s.K i) (xNx P r (s.K i) c) hn n3 cok.1 ok'.1) ?_
  rw [etop]
  rw [show xVi (fun p => xD (xNx P r (s.K i) c) (5 * p)) (fun p => xD (s.K i) (5 * p)) (s.K i / 16 ^ 15) P.np = xV P.np (s.K i) (xNx P r (s.K i) c) from rfl]
  have hv3 : xV P.np (s.K i) (xNx P r (s.K i) c) ≤ 3 := xVi_lt _ _ _ _
  refine r_istore (zdk oS_comeTo 7 rfl) (Nat.le_of_ble_eq_true rfl) rfl ?_
  refine r_iload (zdk oS_comeTo 8 rfl) rfl ?_
  by_cases hv : xV P.np (s.K i) (xNx P r (s.K i) c) = 0
  · rw [xGo_s he hL hv] at hQ
    refine r_if_ne (tgt := 27) (zdk oS_comeTo 9 rfl) (by decide) (fun q9 => absurd ((show nI (xV P.np (s.K i) (xNx P r (s.K i) c)) = 0 by rw [hv]; rfl)) q9) (fun _ => ?_)
    refine r_aload_n (zdk oS_comeTo 10 rfl) rfl rfl ?_
    refine r_lload_n (zdk oS_comeTo 11 rfl) rfl rfl ?_
    refine r_iload_n (zdk oS_comeTo 12 rfl) rfl rfl ?_
    refine r_iload (zdk oS_comeTo 13 rfl) rfl ?_
    refine r_callV3 (M' := mS_find) (zdk oS_comeTo 14 rfl) lM_S_114 vS_find rfl rfl (Nat.le_of_ble_eq_true rfl) rfl (spS_find (d + 1) h P s lo (xNx P r (s.K i) c) c (nI i) hs he ok' hc) ?_
    intro r1 h1 q1
    obtain ⟨e1, q1, q2, q3⟩ := q1
    cases e1
    refine r_vret (zdk oS_comeTo 15 rfl) rfl ?_
    refine hQ h1 q1 ?_ (fun a j k1 k2 k3 k4 k5 => q2 a j (by omega) k3 k4 k5) q3
    have hx := xTry_e (lo := lo) (K := xNx P r (s.K i) c) (pa := nI i) (c := c) he
    unfold zEndC
    rcases hx with e | e
    · rw [e]
      exact ⟨q2 14 1 (by omega) (by decide) (by decide) (by decide), q2 14 2 (by omega) (by decide) (by decide) (by decide), fun j => q2 15 j (by omega) (by decide) (by decide) (by decide)⟩
    · rw [e]
      exact ⟨q2 14 1 (by omega) (by decide) (by decide) (by decide), q2 14 2 (by omega) (by decide) (by decide) (by decide), fun j => q2 15 j (by omega) (by decide) (by decide) (by decide)⟩
  · rw [xGo_v he hL hv] at hQ
    refine r_if_ne (tgt := 27) (zdk oS_comeTo 9 rfl) (by decide) (fun _ => ?_) (fun q9 => absurd q9 ((fun z => hv (nI_inj (by omega) (by decide) (show nI (xV P.np (s.K i) (xNx P r (s.K i) c)) = nI 0 from z)))))
    refine r_aload_n (zdk oS_comeTo 16 rfl) rfl rfl ?_
    refine r_iconst (v := 1) (zdk oS_comeTo 17 rfl) (by decide) ?_
    refine r_puti (kf := 14) (zdk oS_comeTo 18 rfl) rfl rfl (by decide) lF_S_50 rfl rfl (by decide +kernel) (Or.inr (Or.inr rfl)) ?_
    refine r_aload_n (zdk oS_comeTo 19 rfl) rfl rfl ?_
    refine r_iload (zdk oS_comeTo 20 rfl) rfl ?_
    refine r_puti (kf := 15) (zdk oS_comeTo 21 rfl) rfl rfl (by decide) lF_S_54 rfl rfl (by decide +kernel) (Or.inl rfl) ?_
    refine r_aload_n (zdk oS_comeTo 22 rfl) rfl rfl ?_
    refine r_iload_n (zdk oS_comeTo 23 rfl) rfl rfl ?_
    refine r_iload (zdk oS_comeTo 24 rfl) rfl ?_
    refine r_iload (zdk oS_comeTo 25 rfl) rfl ?_
    have o1 : ∀ a j, ¬ (a = 14 ∧ (j = 14 ∨ j = 15)) → (zput (zput h 14 14 1) 14 15 (nI (xV P.np (s.K i) (xNx P r (s.K i) c)))).1 a j = h.1 a j := fun a j ha => by rw [zp1, if_neg (by omega), zp1, if_neg (by omega)]
    have hw1 : ∀ k', k' < r + 1 → ∃ q, q < 200 ∧ (wI s.pa s.co i c k').1 = nI q ∧ (zput (zput h 14 14 1) 14 15 (nI (xV P.np (s.K i) (xNx P r (s.K i) c)))).1 22 q = s.pa q ∧ (zput (zput h 14 14 1) 14 15 (nI (xV P.np (s.K i) (xNx P r (s.K i) c)))).1 23 q = nI (s.co q) := by
      intro k' hk'
      obtain ⟨q, a1, a2, a3⟩ := wI_bt (c := c) (i := i) n200 k' (r - k') (by rw [show k' + (r - k') = r by omega]; exact hat)
      obtain ⟨-, b2, b3, -⟩ := cs q a1
      exact ⟨q, by omega, a2, by rw [o1 22 q (by omega), b2], by rw [o1 23 q (by omega), b3]⟩
    have hw2 : ∀ k', k' ≤ r + 1 → (wI s.pa s.co i c k').2 < 512 := by
      intro k' hk'
      rcases k' with _ | k'
      · show c < 512
        omega
      · obtain ⟨q, a1, a2, a3⟩ := wI_bt (c := c) (i := i) n200 k' (r - k') (by rw [show k' + (r - k') = r by omega]; exact hat)
        show s.co (wI s.pa s.co i c k').1.toNatClampNeg < 512
        rw [a2, nI_clamp (by omega)]
        exact (cs q a1).2.2.2.2
    have hw3 : (wI s.pa s.co i c (r + 1)).2 < 64 := by
      obtain ⟨q, a1, a2, a3⟩ := wI_bt (c := c) (i := i) n200 r 0 hat
      show s.co (wI s.pa s.co i c r).1.toNatClampNeg < 64
      rw [a2, nI_clamp (by omega)]
      exact a3.2
    refine r_callV3 (M' := mS_writePath) (zdk oS_comeTo 26 rfl) lM_S_162 vS_writePath rfl rfl (Nat.le_of_ble_eq_true rfl) rfl (spS_writePath d _ s.pa s.co P.np i c (r + 1) (by rw [o1 14 13 (by omega), hn]) n1 n3 (by omega) hw1 hw2 hw3) ?_
    intro r1 h1 q1
    obtain ⟨e1, t1, t2, t3, t4, t5⟩ := q1
    cases e1
    refine r_vret (zdk oS_comeTo 27 rfl) rfl ?_
    have t6 : ∀ a j, ¬ (a = 14 ∧ (j = 1 ∨ j = 2 ∨ j = 14 ∨ j = 15)) → a ≠ 15 → h1.1 a j = h.1 a j := fun a j k1 k2 => by rw [t4 a j (by omega) k2, o1 a j (by omega)]
    refine hQ h1 ⟨⟨?_, n200, ?_⟩, ?_, ⟨?_, ?_⟩, hlo⟩ ⟨t1, t2, by omega, t3⟩ (fun a j k1 k2 k3 k4 k5 => t6 a j (by omega) k2) (fun a j k1 => by rw [t5]; rfl)
    · rw [t6 14 0 (by omega) (by decide), c0]
    · intro i' hi'
      rw [t5, t6 22 i' (by omega) (by decide), t6 23 i' (by omega) (by decide)]
      exact cs i' hi'
    · rw [show h1.1 24 = h.1 24 from funext (fun j => t6 24 j (by omega) (by decide))]
      exact htb
    · rw [t4 14 14 (by omega) (by decide)]
      simp [zp1]
      rfl
    · rw [t4 14 15 (by omega) (by decide), zp1, if_pos ⟨rfl, rfl⟩]
      rfl
