/-! the class's search: the table of states -/
def hS (x : Int64) : Int32 := (((x ^^^ (x.toUInt64 >>> ((31 : Int32).toInt64.toUInt64 &&& Int64.toUInt64 63)).toInt64).toInt32 * (-1640531535)).toUInt32 >>> ((23 : Int32).toUInt32 &&& Int32.toUInt32 31)).toInt32
def hk (x : Int64) : Nat := (hS x).toNatClampNeg
theorem hk_ok (x : Int64) : hk x < 512 ∧ hS x = nI (hk x) := by
  unfold hk hS
  generalize ((x ^^^ (x.toUInt64 >>> ((31 : Int32).toInt64.toUInt64 &&& Int64.toUInt64 63)).toInt64).toInt32 * (-1640531535)).toUInt32 = y
  have e : (y >>> ((23 : Int32).toUInt32 &&& Int32.toUInt32 31)).toInt32 = nI (y.toNat / 2 ^ 23) := by
    refine Int32.toBitVec_inj.mp (BitVec.eq_of_toNat_eq ?_)
    show (y >>> ((23 : Int32).toUInt32 &&& Int32.toUInt32 31)).toNat = (BitVec.ofNat 32 (y.toNat / 2 ^ 23)).toNat
    rw [UInt32.toNat_shiftRight, show ((23 : Int32).toUInt32 &&& Int32.toUInt32 31).toNat % 32 = 23 from rfl, Nat.shiftRight_eq_div_pow, BitVec.toNat_ofNat, Nat.mod_eq_of_lt]
    have := y.toNat_lt
    omega
  have hy := y.toNat_lt
  have hl : y.toNat / 2 ^ 23 < 512 := by omega
  rw [e, nI_clamp (by omega)]
  exact ⟨hl, rfl⟩
theorem nI_511 (x : Nat) : nI x &&& 511 = nI (x % 512) := by
  refine Int32.toBitVec_inj.mp ?_
  rw [Int32.toBitVec_and]
  refine BitVec.eq_of_toNat_eq ?_
  rw [BitVec.toNat_and]
  show (BitVec.ofNat 32 x).toNat &&& 511 = (BitVec.ofNat 32 (x % 512)).toNat
  rw [BitVec.toNat_ofNat, BitVec.toNat_ofNat, show (511 : Nat) = 2 ^ 9 - 1 from rfl, Nat.and_two_pow_sub_one_eq_mod]
  omega
def cnt (T : Nat → Int32) : Nat → Nat
  | 0 => 0
  | q + 1 => cnt T q + (if T q = 0 then 0 else 1)
theorem cnt_all {T : Nat → Int32} : ∀ m, (∀ q, q < m → ¬ T q = 0) → cnt T m = m
  | 0, _ => rfl
  | m + 1, h => by
    show cnt T m + (if T m = 0 then 0 else 1) = m + 1
    rw [cnt_all m (fun q hq => h q (by omega)), if_neg (h m (by omega))]
theorem cnt_zero {T : Nat → Int32} (h : ∀ q, q < 512 → T q = 0) : ∀ m, m ≤ 512 → cnt T m = 0
  | 0, _ => rfl
  | m + 1, hm => by
    show cnt T m + (if T m = 0 then 0 else 1) = 0
    rw [cnt_zero h m (by omega), if_pos (h m (by omega))]
theorem cnt_same {T T' : Nat → Int32} : ∀ m, (∀ q, q < m → T' q = T q) → cnt T' m = cnt T m
  | 0, _ => rfl
  | m + 1, h => by
    show cnt T' m + (if T' m = 0 then 0 else 1) = cnt T m + (if T m = 0 then 0 else 1)
    rw [cnt_same m (fun q hq => h q (by omega)), h m (by omega)]
theorem cnt_put {T T' : Nat → Int32} {pl : Nat} (h0 : T pl = 0) (h1 : ¬ T' pl = 0) (ho : ∀ q, q ≠ pl → T' q = T q) : ∀ m, pl < m → cnt T' m = cnt T m + 1
  | 0, h => absurd h (Nat.not_lt_zero _)
  | m + 1, h => by
    show cnt T' m + (if T' m = 0 then 0 else 1) = cnt T m + (if T m = 0 then 0 else 1) + 1
    by_cases e : pl = m
    · subst e
      rw [cnt_same pl (fun q hq => ho q (by omega)), if_neg h1, if_pos h0]
    · rw [cnt_put h0 h1 ho m (by omega), ho m (by omega)]
      omega
/-- the table holds the states from lo on -/
def zTab (s : xZ) (lo : Nat) (T : Nat → Int32) : Prop := (∀ q, q < 512 → T q = 0 ∨ ∃ j, lo ≤ j ∧ j < s.n ∧ T q = nI (j + 1)) ∧ (∀ j, lo ≤ j → j < s.n → ∃ t, t < 512 ∧ T ((hk (nJ (s.K j)) + t) % 512) = nI (j + 1) ∧ ∀ u, u < t → ¬ T ((hk (nJ (s.K j)) + u) % 512) = 0) ∧ cnt T 512 ≤ s.n - lo
def zCl (P : xP) (s : xZ) (H : zH) : Prop := H.1 14 0 = nI s.n ∧ s.n ≤ 200 ∧ ∀ i, i < s.n → H.2 21 i = nJ (s.K i) ∧ H.1 22 i = s.pa i ∧ H.1 23 i = nI (s.co i) ∧ xOk P.np P.vars (s.K i) ∧ s.co i < 512
/-- a place in the table: where a state stands, or would stand -/
def zPl (T : Nat → Int32) (x : Int64) (has : Prop) (q : Nat) : Prop := q < 512 ∧ (has → ¬ T q = 0) ∧ (¬ has → T q = 0 ∧ ∃ t, t < 512 ∧ q = (hk x + t) % 512 ∧ ∀ u, u < t → ¬ T ((hk x + u) % 512) = 0)
theorem spS_placeOf (d : Nat) (h : zH) (P : xP) (s : xZ) (lo K : Nat) (hcl : zCl P s h) (htb : zTab s lo (h.1 24)) (hK : K < 2 ^ 63) :
    zSP d 0 0 mS_placeOf [.inr (.inr 14), .inr (.inl (nJ K))] h (fun r h' => ∃ q, r = .inl (some (.inl (nI q))) ∧ h' = h ∧ zPl (h.1 24) (nJ K) (xHas s lo K) q) := by
  suffices main : ∀ Q : zR → zH → Prop, (∀ q, zPl (h.1 24) (nJ K) (xHas s lo K) q → Q (.inl (some (.inl (nI q)))) h) → zSP d 0 0 mS_placeOf [.inr (.inr 14), .inr (.inl (nJ K))] h Q from main _ (fun q hq => ⟨q, rfl, rfl, hq⟩)
  intro Q hQ
  obtain ⟨hk5, hke⟩ := hk_ok (nJ K)
  obtain ⟨ta, tb, tc⟩ := htb
  have n200 := hcl.2.1
  -- a free place, and nothing that is equal before it
  have free : ∀ t, t < 512 → (∀ u, u < t → ¬ h.1 24 ((hk (nJ K) + u) % 512) = 0 ∧ ∀ j, lo ≤ j → j < s.n → h.1 24 ((hk (nJ K) + u) % 512) = nI (j + 1) → ¬ s.K j = K) → h.1 24 ((hk (nJ K) + t) % 512) = 0 → zPl (h.1 24) (nJ K) (xHas s lo K) ((hk (nJ K) + t) % 512) := by
    intro t ht hu hz
    refine ⟨Nat.mod_lt _ (by decide), ?_, fun _ => ⟨hz, t, ht, rfl, fun u hu' => (hu u hu').1⟩⟩
    rintro ⟨j, j1, j2, j3⟩
    obtain ⟨t', t1, t2, t3⟩ := tb j j1 j2
    rw [j3] at t2 t3
    rcases Nat.lt_trichotomy t t' with c | c | c
    · exact absurd hz (t3 t c)
    · subst c
      rw [t2] at hz
      exact absurd (nI_inj (by omega) (by decide) (show nI (j + 1) = nI 0 from hz)) (by omega)
    · exact absurd j3 ((hu t' c).2 j j1 j2 t2)
  have loop : ∀ (m t : Nat), t + m = 512 → (∀ u, u < t → ¬ h.1 24 ((hk (nJ K) + u) % 512) = 0 ∧ ∀ j, lo ≤ j → j < s.n → h.1 24 ((hk (nJ K) + u) % 512) = nI (j + 1) → ¬ s.K j = K) →
      zMC false d 0 0 0 0 mS_placeOf Q 17 [some (.inr (.inr 14)), some (.inr (.inl (nJ K))), none, some (.inl (nI ((hk (nJ K) + t) % 512))), some (.inl (nI t))] [] h := by
    intro m
    induction m with
    | zero =>
      intro t ht hu
      have e : t = 512 := by omega
      subst e
      have all : ∀ q, q < 512 → ¬ h.1 24 q = 0 := by
        intro q hq
        have := (hu ((q + 512 - hk (nJ K)) % 512) (Nat.mod_lt _ (by decide))).1
        rw [show (hk (nJ K) + (q + 512 - hk (nJ K)) % 512) % 512 = q by omega] at this
        exact this
      rw [cnt_all 512 all] at tc
      omega
    | succ m ih =>
      intro t ht hu
      have hp : (hk (nJ K) + t) % 512 < 512 := Nat.mod_lt _ (by decide)
      have ecl : (nI ((hk (nJ K) + t) % 512)).toNatClampNeg = (hk (nJ K) + t) % 512 := nI_clamp (by omega)
      refine r_iload (zdk oS_placeOf 13 rfl) rfl ?_
      refine r_sipush (v := 512) (zdk oS_placeOf 14 rfl) (by decide) ?_
      refine r_icmp_ge (tgt := 68) (zdk oS_placeOf 15 rfl) (by decide) (fun q9 => absurd q9 ((nI_ge (a := t) (b := 512) (by omega) (by decide)))) (fun _ => ?_)
      refine r_aload_n (zdk oS_placeOf 16 rfl) rfl rfl ?_
      refine r_getr (kf := 9) (zdk oS_placeOf 17 rfl) rfl rfl (by decide) lF_S_35 rfl ?_
      refine r_iload_n (zdk oS_placeOf 18 rfl) rfl rfl ?_
      refine r_iald (zdk oS_placeOf 19 rfl) rfl (vp_in_nI (n := (hk (nJ K) + t) % 512) (by omega) (by decide)) ?_
      rw [ecl]
      rcases ta _ hp with hz | ⟨j, j1, j2, j3⟩
      · refine r_if_eq (tgt := 68) (zdk oS_placeOf 20 rfl) (by decide) (fun _ => ?_) (fun q9 => absurd ((hz)) q9)
        refine r_iload_n (zdk oS_placeOf 43 rfl) rfl rfl ?_
        refine r_iret (zdk oS_placeOf 44 rfl) rfl ?_
        exact hQ _ (free t (by omega) hu hz)
      · have hnz : ¬ h.1 24 ((hk (nJ K) + t) % 512) = 0 := by
          rw [j3]
          exact fun z => absurd (nI_inj (by omega) (by decide) (show nI (j + 1) = nI 0 from z)) (by omega)
        refine r_if_eq (tgt := 68) (zdk oS_placeOf 20 rfl) (by decide) (fun q9 => absurd q9 ((hnz))) (fun _ => ?_)
        refine r_aload_n (zdk oS_placeOf 21 rfl) rfl rfl ?_
        refine r_getr (kf := 6) (zdk oS_placeOf 22 rfl) rfl rfl (by decide) lF_S_25 rfl ?_
        refine r_aload_n (zdk oS_placeOf 23 rfl) rfl rfl ?_
        refine r_getr (kf := 9) (zdk oS_placeOf 24 rfl) rfl rfl (by decide) lF_S_35 rfl ?_
        refine r_iload_n (zdk oS_placeOf 25 rfl) rfl rfl ?_
        refine r_iald (zdk oS_placeOf 26 rfl) rfl (vp_in_nI (n := (hk (nJ K) + t) % 512) (by omega) (by decide)) ?_
        rw [ecl, j3]
        refine r_iconst (v := 1) (zdk oS_placeOf 27 rfl) (by decide) ?_
        refine r_isub (zdk oS_placeOf 28 rfl) ?_
        refine r_tp (zm1s j) ?_
        refine r_lald (zdk oS_placeOf 29 rfl) rfl (vp_in_nI (n := j) (by omega) (by decide)) ?_
        refine r_lload_n (zdk oS_placeOf 30 rfl) rfl rfl ?_
        refine r_lcmp (zdk oS_placeOf 31 rfl) ?_
        rw [nI_clamp (n := j) (by omega), (hcl.2.2 j j2).1]
        by_cases eK : s.K j = K
        · refine r_if_ne (tgt := 54) (zdk oS_placeOf 32 rfl) (by decide) (fun q9 => absurd (((lg0 _ _).mpr (by rw [eK]))) q9) (fun _ => ?_)
          refine r_iload_n (zdk oS_placeOf 33 rfl) rfl rfl ?_
          refine r_iret (zdk oS_placeOf 34 rfl) rfl ?_
          exact hQ _ ⟨hp, fun _ => hnz, fun hn => absurd ⟨j, j1, j2, eK⟩ hn⟩
        · refine r_if_ne (tgt := 54) (zdk oS_placeOf 32 rfl) (by decide) (fun _ => ?_) (fun q9 => absurd q9 ((fun z => eK (nJ_inj (hcl.2.2 j j2).2.2.2.1.1 hK ((lg0 _ _).mp z)))))
          refine r_iload_n (zdk oS_placeOf 35 rfl) rfl rfl ?_
          refine r_iconst (v := 1) (zdk oS_placeOf 36 rfl) (by decide) ?_
          refine r_iadd (zdk oS_placeOf 37 rfl) ?_
          refine r_tp (nI_1 _) ?_
          refine r_sipush (v := 511) (zdk oS_placeOf 38 rfl) (by decide) ?_
          refine r_iand (zdk oS_placeOf 39 rfl) ?_
          refine r_tp (nI_511 _) ?_
          refine r_istore_n (zdk oS_placeOf 40 rfl) rfl (Nat.le_of_ble_eq_true rfl) rfl ?_
          first | refine r_iinc (zdk oS_placeOf 41 rfl) rfl (zinc _) rfl ?_ | refine r_iinc (zdk oS_placeOf 41 rfl) rfl rfl rfl ?_
          refine r_goto (tgt := 17) (zdk oS_placeOf 42 rfl) (by decide) ?_
          have i0 := ih (t + 1) (by omega) (fun u hu' => by
            by_cases e : u = t
            · subst e
              refine ⟨hnz, fun j' g1 g2 g3 => ?_⟩
              rw [j3] at g3
              have : j + 1 = j' + 1 := nI_inj (by omega) (by omega) g3
              rw [show j' = j by omega]; exact eK
            · exact hu u (by omega))
          rw [show (hk (nJ K) + (t + 1)) % 512 = ((hk (nJ K) + t) % 512 + 1) % 512 by omega] at i0
          exact i0
  refine zmet (by decide +kernel) (Nat.le_of_ble_eq_true rfl) ?_
  refine r_lload_n (zdk oS_placeOf 0 rfl) rfl rfl ?_
  refine r_lload_n (zdk oS_placeOf 1 rfl) rfl rfl ?_
  refine r_bipush (v := 31) (zdk oS_placeOf 2 rfl) (by decide) ?_
  refine r_lushr (zdk oS_placeOf 3 rfl) ?_
  refine r_lxor (zdk oS_placeOf 4 rfl) ?_
  refine r_l2i (zdk oS_placeOf 5 rfl) ?_
  refine r_ldc (zdk oS_placeOf 6 rfl) lC_S_169 ?_
  refine r_imul (zdk oS_placeOf 7 rfl) ?_
  refine r_bipush (v := 23) (zdk oS_placeOf 8 rfl) (by decide) ?_
  refine r_iushr (zdk oS_placeOf 9 rfl) ?_
  refine r_tp (show _ = nI ((hk (nJ K) + 0) % 512) by rw [Nat.add_zero, Nat.mod_eq_of_lt hk5]; exact hke) ?_
  refine r_istore_n (zdk oS_placeOf 10 rfl) rfl (Nat.le_of_ble_eq_true rfl) rfl ?_
  refine r_iconst (v := 0) (zdk oS_placeOf 11 rfl) (by decide) ?_
  refine r_istore (zdk oS_placeOf 12 rfl) (Nat.le_of_ble_eq_true rfl) rfl ?_
  exact loop 512 0 (by omega) (fun u hu => absurd hu (Nat.not_lt_zero u))
/-- whether the search has ended, and its answer -/
def zEn (s : xZ) (H : zH) : Prop := H.1 14 14 = fBo (decide (s.e ≠ none)) ∧ H.1 14 15 = xAns s.e
def zCS (P : xP) (lo : Nat) (s : xZ) (H : zH) : Prop := zCl P s H ∧ zTab s lo (H.1 24) ∧ zEn s H ∧ lo ≤ s.n
theorem zCS.congr {P : xP} {lo : Nat} {s : xZ} {H H' : zH} (h : zCS P lo s H) (h1 : ∀ a j, (a = 14 ∧ (j = 0 ∨ j = 14 ∨ j = 15)) ∨ a = 22 ∨ a = 23 ∨ a = 24 → H'.1 a j = H.1 a j) (h2 : ∀ j, H'.2 21 j = H.2 21 j) : zCS P lo s H' := by
  obtain ⟨⟨a, b, c⟩, t, ⟨e1, e2⟩, l⟩ := h
  refine ⟨⟨by rw [h1 14 0 (by omega), a], b, fun i hi => ?_⟩, ?_, ⟨by rw [h1 14 14 (by omega), e1], by rw [h1 14 15 (by omega), e2]⟩, l⟩
  · rw [h2, h1 22 i (by omega), h1 23 i (by omega)]
    exact c i hi
  · rw [show H'.1 24 = H.1 24 from funext (fun j => h1 24 j (by omega))]
    exact t
theorem zTab_put {s : xZ} {lo K c pl : Nat} {pa : Int32} {T T' : Nat → Int32} (ht : zTab s lo T) (hl : lo ≤ s.n) (hn : s.n < 200) (hp : zPl T (nJ K) (xHas s lo K) pl) (hh : ¬ xHas s lo K) (e1 : T' pl = nI (s.n + 1)) (ho : ∀ q, q ≠ pl → T' q = T q) : zTab (s.put K pa c) lo T' := by
  obtain ⟨ta, tb, tc⟩ := ht
  obtain ⟨p1, -, p3⟩ := hp
  obtain ⟨p4, t, t1, t2, t3⟩ := p3 hh
  have nz : ¬ T' pl = 0 := by
    rw [e1]
    exact fun z => absurd (nI_inj (by omega) (by decide) (show nI (s.n + 1) = nI 0 from z)) (by omega)
  have keep : ∀ q, ¬ T q = 0 → T' q = T q := fun q hq => ho q (fun z => hq (by rw [z]; exact p4))
  refine ⟨?_, ?_, ?_⟩
  · intro q hq
    by_cases e : q = pl
    · exact Or.inr ⟨s.n, hl, Nat.lt_succ_self _, by rw [e, e1]⟩
    · rw [ho q e]
      rcases ta q hq with z | ⟨j, j1, j2, j3⟩
      · exact Or.inl z
      · exact Or.inr ⟨j, j1, Nat.lt_succ_of_lt j2, j3⟩
  · intro j j1 j2
    have j2' : j < s.n + 1 := j2
    show ∃ t, t < 512 ∧ T' ((hk (nJ (if j = s.n then K else s.K j)) + t) % 512) = nI (j + 1) ∧ ∀ u, u < t → ¬ T' ((hk (nJ (if j = s.n then K else s.K j)) + u) % 512) = 0
    by_cases e : j = s.n
    · rw [if_pos e]
      refine ⟨t, t1, by rw [← t2, e1, e], fun u hu => ?_⟩
      rw [keep _ (t3 u hu)]; exact t3 u hu
    · rw [if_neg e]
      obtain ⟨t', g1, g2, g3⟩ := tb j j1 (by omega)
      refine ⟨t', g1, ?_, fun u hu => ?_⟩
      · rw [keep _ (by rw [g2]; exact fun z => absurd (nI_inj (by omega) (by decide) (show nI (j + 1) = nI 0 from z)) (by omega)), g2]
      · rw [keep _ (g3 u hu)]; exact g3 u hu
  · rw [cnt_put p4 nz ho 512 p1]
    show cnt T 512 + 1 ≤ s.n + 1 - lo
    omega
theorem spS_find (d : Nat) (h : zH) (P : xP) (s : xZ) (lo K c : Nat) (pa : Int32) (hs : zCS P lo s h) (he : s.e = none) (hK : xOk P.np P.vars K) (hc : c < 512) :
    zSP (d + 1) 0 0 mS_find [.inr (.inr 14), .inr (.inl (nJ K)), .inl pa, .inl (nI c)] h (fun r h' => r = .inl none ∧ zCS P lo (xTry lo K pa c s) h' ∧ (∀ a j, ¬ (a = 14 ∧ (j = 0 ∨ j = 14 ∨ j = 15)) → a ≠ 22 → a ≠ 23 → a ≠ 24 → h'.1 a j = h.1 a j) ∧ (∀ a j, a ≠ 21 → h'.2 a j = h.2 a j)) := by
  suffices main : ∀ Q : zR → zH → Prop, (∀ h', zCS P lo (xTry lo K pa c s) h' → (∀ a j, ¬ (a = 14 ∧ (j = 0 ∨ j = 14 ∨ j = 15)) → a ≠ 22 → a ≠ 23 → a ≠ 24 → h'.1 a j = h.1 a j) → (∀ a j, a ≠ 21 → h'.2 a j = h.2 a j) → Q (.inl none) h') → zSP (d + 1) 0 0 mS_find [.inr (.inr 14), .inr (.inl (nJ K)), .inl pa, .inl (nI c)] h Q from main _ (fun h' a b c => ⟨rfl, a, b, c⟩)
  intro Q hQ
  obtain ⟨hcl, htb, hen, hlo⟩ := id hs
  obtain ⟨c0, n200, cs⟩ := id hcl
  unfold xTry at hQ
  refine zmet (by decide +kernel) (Nat.le_of_ble_eq_true rfl) ?_
  refine r_aload_n (zdk oS_find 0 rfl) rfl rfl ?_
  refine r_lload_n (zdk oS_find 1 rfl) rfl rfl ?_
  refine r_callV1 (M' := mS_placeOf) (zdk oS_find 2 rfl) lM_S_165 vS_placeOf rfl rfl (Nat.le_of_ble_eq_true rfl) rfl (spS_placeOf d h P s lo K hcl htb hK.1) ?_
  rintro r h' ⟨q, er, eh, hpl⟩
  cases er
  rw [eh]
  have ecl : (nI q).toNatClampNeg = q := nI_clamp (by have := hpl.1; omega)
  have hq5 := hpl.1
  refine r_istore (zdk oS_find 3 rfl) (Nat.le_of_ble_eq_true rfl) rfl ?_
  refine r_aload_n (zdk oS_find 4 rfl) rfl rfl ?_
  refine r_getr (kf := 9) (zdk oS_find 5 rfl) rfl rfl (by decide) lF_S_35 rfl ?_
  refine r_iload (zdk oS_find 6 rfl) rfl ?_
  refine r_iald (zdk oS_find 7 rfl) rfl (vp_in_nI (n := q) (by omega) (by decide)) ?_
  rw [ecl]
  by_cases hh : xHas s lo K
  · refine r_if_eq (tgt := 18) (zdk oS_find 8 rfl) (by decide) (fun q9 => absurd q9 ((hpl.2.1 hh))) (fun _ => ?_)
    refine r_vret (zdk oS_find 9 rfl) rfl ?_
    rw [if_pos hh] at hQ
    exact hQ _ hs (fun _ _ _ _ _ _ => rfl) (fun _ _ _ => rfl)
  · rw [if_neg hh] at hQ
    refine r_if_eq (tgt := 18) (zdk oS_find 8 rfl) (by decide) (fun _ => ?_) (fun q9 => absurd (((hpl.2.2 hh).1)) q9)
    refine r_aload_n (zdk oS_find 10 rfl) rfl rfl ?_
    refine r_geti (kf := 0) (zdk oS_find 11 rfl) rfl rfl (by decide) lF_S_11 rfl ?_
    refine r_sipush (v := 200) (zdk oS_find 12 rfl) (by decide) ?_
    rw [c0]
    by_cases hn : s.n = 200
    · refine r_icmp_ne (tgt := 39) (zdk oS_find 13 rfl) (by decide) (fun q9 => absurd ((show nI s.n = 200 by rw [hn]; rfl)) q9) (fun _ => ?_)
      refine r_aload_n (zdk oS_find 14 rfl) rfl rfl ?_
      refine r_iconst (v := 1) (zdk oS_find 15 rfl) (by decide) ?_
      refine r_puti (kf := 14) (zdk oS_find 16 rfl) rfl rfl (by decide) lF_S_50 rfl rfl (by decide +kernel) (Or.inr (Or.inr rfl)) ?_
      refine r_aload_n (zdk oS_find 17 rfl) rfl rfl ?_
      refine r_iconst (v := -1) (zdk oS_find 18 rfl) (by decide) ?_
      refine r_puti (kf := 15) (zdk oS_find 19 rfl) rfl rfl (by decide) lF_S_54 rfl rfl (by decide +kernel) (Or.inl rfl) ?_
      refine r_vret (zdk oS_find 20 rfl) rfl ?_
      rw [if_pos hn] at hQ
      refine hQ _ ⟨⟨?_, n200, ?_⟩, ?_, ⟨?_, ?_⟩, hlo⟩ ?_ ?_
      · rw [zp1, if_neg (by omega), zp1, if_neg (by omega), c0]
      · intro i hi
        rw [zp1, if_neg (by omega), zp1, if_neg (by omega), zp1, if_neg (by omega), zp1, if_neg (by omega)]
        exact cs i hi
      · rw [show (zput (zput h 14 14 1) 14 15 (-1)).1 24 = h.1 24 from funext (fun j => by rw [zp1, if_neg (by omega), zp1, if_neg (by omega)])]
        exact htb
      · simp [zp1]; rfl
      · simp [zp1]; rfl
      · intro a j g1 g2 g3 g4
        rw [zp1, if_neg (by omega), zp1, if_neg (by omega)]
      · intro a j g1
        rfl
    · refine r_icmp_ne (tgt := 39) (zdk oS_find 13 rfl) (by decide) (fun _ => ?_) (fun q9 => absurd q9 ((fun z => hn (nI_inj (by omega) (by decide) (show nI s.n = nI 200 from z)))))
      have ei : (nI s.n).toNatClampNeg = s.n := nI_clamp (by omega)
      have g1 : (zputL h 21 s.n (nJ K)).1 14 0 = nI s.n := by rw [zq1, c0]
      have g2 : (zput (zputL h 21 s.n (nJ K)) 22 s.n pa).1 14 0 = nI s.n := by rw [zp1, if_neg (by omega), g1]
      have g3 : (zput (zput (zputL h 21 s.n (nJ K)) 22 s.n pa) 23 s.n (nI c)).1 14 0 = nI s.n := by rw [zp1, if_neg (by omega), g2]
      rw [if_neg hn] at hQ
      refine r_aload_n (zdk oS_find 21 rfl) rfl rfl ?_
      refine r_getr (kf := 6) (zdk oS_find 22 rfl) rfl rfl (by decide) lF_S_25 rfl ?_
      refine r_aload_n (zdk oS_find 23 rfl) rfl rfl ?_
      refine r_geti (kf := 0) (zdk oS_find 24 rfl) rfl rfl (by decide) lF_S_11 rfl ?_
      rw [c0]
      refine r_lload_n (zdk oS_find 25 rfl) rfl rfl ?_
      refine r_last (zdk oS_find 26 rfl) rfl (vp_in_nI (n := s.n) (by omega) (by decide)) ?_
      refine r_aload_n (zdk oS_find 27 rfl) rfl rfl ?_
      refine r_getr (kf := 7) (zdk oS_find 28 rfl) rfl rfl (by decide) lF_S_29 rfl ?_
      refine r_aload_n (zdk oS_find 29 rfl) rfl rfl ?_
      refine r_geti (kf := 0) (zdk oS_find 30 rfl) rfl rfl (by decide) lF_S_11 rfl ?_
      rw [ei, g1]
      refine r_iload_n (zdk oS_find 31 rfl) rfl rfl ?_
      refine r_iast (zdk oS_find 32 rfl) rfl (vp_in_nI (n := s.n) (by omega) (by decide)) ?_
      refine r_aload_n (zdk oS_find 33 rfl) rfl rfl ?_
      refine r_getr (kf := 8) (zdk oS_find 34 rfl) rfl rfl (by decide) lF_S_32 rfl ?_
      refine r_aload_n (zdk oS_find 35 rfl) rfl rfl ?_
      refine r_geti (kf := 0) (zdk oS_find 36 rfl) rfl rfl (by decide) lF_S_11 rfl ?_
      rw [ei, g2]
      refine r_iload (zdk oS_find 37 rfl) rfl ?_
      refine r_iast (zdk oS_find 38 rfl) rfl (vp_in_nI (n := s.n) (by omega) (by decide)) ?_
      refine r_aload_n (zdk oS_find 39 rfl) rfl rfl ?_
      refine r_dup (zdk oS_find 40 rfl) rfl ?_
      refine r_geti (kf := 0) (zdk oS_find 41 rfl) rfl rfl (by decide) lF_S_11 rfl ?_
      rw [ei, g3]
      refine r_iconst (v := 1) (zdk oS_find 42 rfl) (by decide) ?_
      refine r_iadd (zdk oS_find 43 rfl) ?_
      refine r_tp (nI_1 s.n) ?_
      refine r_puti (kf := 0) (zdk oS_find 44 rfl) rfl rfl (by decide) lF_S_11 rfl rfl (by decide +kernel) (Or.inl rfl) ?_
      refine r_aload_n (zdk oS_find 45 rfl) rfl rfl ?_
      refine r_getr (kf := 9) (zdk oS_find 46 rfl) rfl rfl (by decide) lF_S_35 rfl ?_
      refine r_iload (zdk oS_find 47 rfl) rfl ?_
      refine r_aload_n (zdk oS_find 48 rfl) rfl rfl ?_
      refine r_geti (kf := 0) (zdk oS_find 49 rfl) rfl rfl (by decide) lF_S_11 rfl ?_
      rw [show (zput (zput (zput (zputL h 21 s.n (nJ K)) 22 s.n pa) 23 s.n (nI c)) 14 0 (nI (s.n + 1))).1 14 0 = nI (s.n + 1) by rw [zp1, if_pos ⟨rfl, rfl⟩]]
      refine r_iast (zdk oS_find 50 rfl) rfl (vp_in_nI (n := q) (by omega) (by decide)) ?_
      refine r_vret (zdk oS_find 51 rfl) rfl ?_
      rw [ecl]
      refine hQ _ ⟨⟨?_, by show s.n + 1 ≤ 200; omega, ?_⟩, ?_, ⟨?_, ?_⟩, Nat.le_succ_of_le hlo⟩ ?_ ?_
      · rw [zp1, if_neg (by omega), zp1, if_pos ⟨rfl, rfl⟩]
      · intro i hi
        have hi' : i < s.n + 1 := hi
        show _ = nJ (if i = s.n then K else s.K i) ∧ _ = (if i = s.n then pa else s.pa i) ∧ _ = nI (if i = s.n then c else s.co i) ∧ xOk P.np P.vars (if i = s.n then K else s.K i) ∧ (if i = s.n then c else s.co i) < 512
        simp only [zp1, zp2, zq1, zq2]
        by_cases e : i = s.n
        · simp [e, hK, hc]
        · simp only [e, and_false, if_false]
          simpa using cs i (by omega)
      · refine zTab_put htb hlo (by omega) hpl hh ?_ ?_
        · rw [zp1, if_pos ⟨rfl, rfl⟩]
        · intro q' hq'
          simp only [zp1, zq1]
          rw [if_neg (fun z => hq' z.2), if_neg (by omega), if_neg (by omega), if_neg (by omega)]
      · rw [show ((s.put K pa c).e) = s.e from rfl, ← hen.1]
        simp only [zp1, zq1]
        rw [if_neg (by omega), if_neg (by omega), if_neg (by omega), if_neg (by omega)]
      · rw [show ((s.put K pa c).e) = s.e from rfl, ← hen.2]
        simp only [zp1, zq1]
        rw [if_neg (by omega), if_neg (by omega), if_neg (by omega), if_neg (by omega)]
      · intro a j k1 k2 k3 k4
        simp only [zp1, zq1]
        rw [if_neg (fun z => k4 z.1), if_neg (by omega), if_neg (fun z => k3 z.1), if_neg (fun z => k2 z.1)]
      · intro a j k1
        simp only [zp2, zq2]
        rw [if_neg (fun z => k1 z.1)]
