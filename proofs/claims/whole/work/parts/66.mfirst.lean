/-! the reference finds the first states -/
theorem r_callV5 {t : Bool} {d nc ns C S : Nat} {M : zM} {K : zR → zH → Prop} {pc : Nat} {L : List (Option zV)} {st : List zV} {h : zH} {M' : zM} {idx : Nat} {q ci N : Nat} {ks : List (Bool ⊕ Nat)} {T : u_T} {a1 a2 a3 a4 a5 : zV} {K' : zR → zH → Prop} (hd : decode M.2.1 pc = .ok (.invokevirtual idx, 3)) (hl0 : Cond.methodLink M.1.cls idx M'.1 ∈ ztb) (hO : zOkV M' 5) (hq : zS[q]? = some (.inr (ci, ks))) (hcl : zcl[ci]? = some (M'.1.cls, T, N)) (hw : zwt st ≤ 8) (hsz : L.length = M.2.2.1) (hsp : zSP d 0 0 M' (.inr (.inr q) :: [a1, a2, a3, a4, a5]) h K') (k : ∀ r h', K' (.inl r) h' → zMC t (d + 1) nc ns C S M K (pc + 3) L (r.toList ++ st) h') : zMC t (d + 1) nc ns C S M K pc L (a5 :: a4 :: a3 :: a2 :: a1 :: .inr (.inr q) :: st) h := r_callV (As := [a1, a2, a3, a4, a5]) hd hl0 hO hq hcl rfl hw hsz hsp k
def zMl (P : xP) (s : xZ) (H : zH) : Prop := H.1 27 21 = nI s.n ∧ s.n ≤ 200 ∧ ∀ i, i < s.n → H.2 39 i = nJ (xR P.np P.vars (s.K i)) ∧ H.1 40 i = s.pa i ∧ H.1 41 i = nI (s.co i) ∧ H.1 42 i = nI (s.K i / 16 ^ 15) ∧ xOk P.np P.vars (s.K i) ∧ s.co i < 512
def zFr (h0 H : zH) : Prop := (∀ a j, ¬ (a = 27 ∧ (j = 16 ∨ j = 17 ∨ j = 18 ∨ j = 21)) → a ≠ 33 → a ≠ 34 → a ≠ 35 → a ≠ 36 → a ≠ 37 → a ≠ 40 → a ≠ 41 → a ≠ 42 → H.1 a j = h0.1 a j) ∧ (∀ a j, a ≠ 39 → H.2 a j = h0.2 a j)
theorem zFr.refl (h : zH) : zFr h h := ⟨fun _ _ _ _ _ _ _ _ _ _ _ => rfl, fun _ _ _ => rfl⟩
theorem zFr.trans {a b c : zH} (h1 : zFr a b) (h2 : zFr b c) : zFr a c := ⟨fun x j c1 c2 c3 c4 c5 c6 c7 c8 c9 => by rw [h2.1 x j c1 c2 c3 c4 c5 c6 c7 c8 c9, h1.1 x j c1 c2 c3 c4 c5 c6 c7 c8 c9], fun x j c1 => by rw [h2.2 x j c1, h1.2 x j c1]⟩
theorem zMl.congr {P : xP} {s : xZ} {H H' : zH} (h : zMl P s H) (h1 : ∀ a j, (a = 27 ∧ j = 21) ∨ a = 40 ∨ a = 41 ∨ a = 42 → H'.1 a j = H.1 a j) (h2 : H'.2 = H.2) : zMl P s H' := by
  obtain ⟨a, b, c⟩ := h
  refine ⟨by rw [h1 27 21 (by omega), a], b, fun i hi => ?_⟩
  rw [h2, h1 40 i (by omega), h1 41 i (by omega), h1 42 i (by omega)]
  exact c i hi
theorem zMl_has {P : xP} (hP : xPok P) {s : xZ} {H : zH} (h : zMl P s H) {lo K : Nat} (hK : xOk P.np P.vars K) : zHas H lo s.n (nJ (xR P.np P.vars K)) ↔ xHas s lo K := by
  constructor
  · rintro ⟨j, j1, j2, j3⟩
    obtain ⟨e, -, -, -, ok, -⟩ := h.2.2 j j2
    rw [e] at j3
    exact ⟨j, j1, j2, xR_inj ok hK (nJ_inj (xR_lt hP.n3 hP.v5 ok.1) (xR_lt hP.n3 hP.v5 hK.1) j3)⟩
  · rintro ⟨j, j1, j2, j3⟩
    obtain ⟨e, -⟩ := h.2.2 j j2
    exact ⟨j, j1, j2, by rw [e, j3]⟩
/-- a state is added, or is there already -/
theorem zMl_add {P : xP} (hP : xPok P) {s : xZ} {H : zH} (h : zMl P s H) {lo K c : Nat} {pa : Int32} (hK : xOk P.np P.vars K) (hc : c < 512) (he : s.e = none) {r : zR} {h' : zH}
    (q : (zHas H lo s.n (nJ (xR P.np P.vars K)) → zI (fBo true) H r h') ∧ (¬ zHas H lo s.n (nJ (xR P.np P.vars K)) → s.n = 200 → zI (fBo false) H r h') ∧ (¬ zHas H lo s.n (nJ (xR P.np P.vars K)) → s.n < 200 → zI (fBo true) (zAdd H s.n (nJ (xR P.np P.vars K)) pa (nI c) (nI (K / 16 ^ 15))) r h')) :
    r = .inl (some (.inl (fBo (decide ((xTry lo K pa c s).e = none))))) ∧ zMl P (xTry lo K pa c s) h' ∧ (∀ a j, ¬ (a = 27 ∧ j = 21) → a ≠ 40 → a ≠ 41 → a ≠ 42 → h'.1 a j = H.1 a j) ∧ (∀ a j, a ≠ 39 → h'.2 a j = H.2 a j) := by
  obtain ⟨q1, q2, q3⟩ := q
  rw [zMl_has hP h hK] at q1 q2 q3
  unfold xTry
  by_cases hh : xHas s lo K
  · obtain ⟨e1, e2⟩ := q1 hh
    subst e2
    rw [if_pos hh, he]
    exact ⟨e1, h, fun _ _ _ _ _ _ => rfl, fun _ _ _ => rfl⟩
  · rw [if_neg hh]
    by_cases hn : s.n = 200
    · obtain ⟨e1, e2⟩ := q2 hh hn
      subst e2
      rw [if_pos hn]
      exact ⟨e1, h, fun _ _ _ _ _ _ => rfl, fun _ _ _ => rfl⟩
    · have hl := h.2.1
      obtain ⟨e1, e2⟩ := q3 hh (by omega)
      subst e2
      rw [if_neg hn]
      refine ⟨by rw [e1]; show _ = Sum.inl (some (Sum.inl (fBo (decide (s.e = none))))); rw [he]; rfl, ⟨?_, by show s.n + 1 ≤ 200; omega, ?_⟩, ?_, ?_⟩
      · unfold zAdd
        rw [zp1, if_pos ⟨rfl, rfl⟩]
      · intro i hi
        have hi' : i < s.n + 1 := hi
        show (zAdd H s.n (nJ (xR P.np P.vars K)) pa (nI c) (nI (K / 16 ^ 15))).2 39 i = nJ (xR P.np P.vars (if i = s.n then K else s.K i)) ∧ _ = (if i = s.n then pa else s.pa i) ∧ _ = nI (if i = s.n then c else s.co i) ∧ _ = nI ((if i = s.n then K else s.K i) / 16 ^ 15) ∧ xOk P.np P.vars (if i = s.n then K else s.K i) ∧ (if i = s.n then c else s.co i) < 512
        unfold zAdd
        simp only [zp1, zp2, zq1, zq2]
        by_cases e : i = s.n
        · simp [e, hK, hc]
        · simp only [e, and_false, if_false]
          simpa using h.2.2 i (by omega)
      · intro a j c1 c2 c3 c4
        unfold zAdd
        simp only [zp1, zq1]
        rw [if_neg c1, if_neg (fun z => c4 z.1), if_neg (fun z => c3 z.1), if_neg (fun z => c2 z.1)]
      · intro a j c1
        unfold zAdd
        simp only [zp2, zq2]
        rw [if_neg (fun z => c1 z.1)]
theorem xQ_i {np c p : Nat} (hn : np ≤ 3) (hc : c < 64) (hp : p < np) : (nI c >>> ((2 * (nI np - 1 - nI p)) &&& 31)) &&& 3 = nI (xQ np c p) := by
  have key : ∀ np : Fin 4, ∀ c : Fin 64, ∀ p : Fin 3, p.val < np.val → (nI c.val >>> ((2 * (nI np.val - 1 - nI p.val)) &&& 31)) &&& 3 = nI (xQ np.val c.val p.val) := by decide +kernel
  exact key ⟨np, by omega⟩ ⟨c, hc⟩ ⟨p, by omega⟩ hp
theorem x2n {np : Nat} (hn : np ≤ 3) : (1 : Int32) <<< ((2 * nI np) &&& 31) = nI (2 ^ (2 * np)) ∧ 2 ^ (2 * np) ≤ 64 := by
  have key : ∀ np : Fin 4, (1 : Int32) <<< ((2 * nI np.val) &&& 31) = nI (2 ^ (2 * np.val)) ∧ 2 ^ (2 * np.val) ≤ 64 := by decide +kernel
  exact key ⟨np, by omega⟩
theorem xMs_i {m q : Nat} (hm : m < 16) (hq : q < 4) : nI m ||| ((1 : Int32) <<< (nI q &&& 31)) = nI (m ||| 2 ^ q) := by
  have key : ∀ m : Fin 16, ∀ q : Fin 4, nI m.val ||| ((1 : Int32) <<< (nI q.val &&& 31)) = nI (m.val ||| 2 ^ q.val) := by decide +kernel
  exact key ⟨m, hm⟩ ⟨q, hq⟩
theorem xMs16 {np c : Nat} : ∀ p, xMs np c p < 16
  | 0 => by show 0 < 16; decide
  | p + 1 => by
    have h2 : 2 ^ xQ np c p < 16 := by
      have := xQ4 np c p
      have : xQ np c p = 0 ∨ xQ np c p = 1 ∨ xQ np c p = 2 ∨ xQ np c p = 3 := by omega
      rcases this with e | e | e | e <;> rw [e] <;> decide
    exact Nat.or_lt_two_pow (n := 4) (xMs16 p) h2
theorem zMbg1 {h : zH} {p n : Nat} {v : Int32} {a j : Nat} : (zMbg h p n v).1 a j = if a = 34 ∧ 5 * p ≤ j ∧ j < 5 * p + n then (if j = 5 * p + 1 then (if h.1 28 3 < v then h.1 28 3 else v) else 0) else h.1 a j := rfl
theorem xF_dig {P : xP} (hP : xPok P) {c p v : Nat} (hp : p < P.np) (hv : v < P.vars) : xD (xF P c) (5 * p + v) = if v = 1 then min (P.W 3).toNatClampNeg (xQ P.np c p) else 0 := by
  have n3 := hP.n3
  have v5 := hP.v5
  unfold xF
  rw [xD_K (fun j => xFf_lt P c j) (by omega)]
  unfold xFf
  obtain ⟨e1, e2⟩ := x5 (p := p) (v := v) (by omega)
  rw [e1, e2]
  by_cases q : v = 1
  · rw [if_pos ⟨hp, q⟩, if_pos q]
  · rw [if_neg (fun z => q z.2), if_neg q]
theorem spM_firstStates (d : Nat) (h0 : zH) (P : xP) (dd : Nat) (hP : xPok P) (k8 : h0.1 27 8 = nI P.vars) (hW : ∀ j, h0.1 28 j = P.W j) (hf : h0.1 27 21 = 0) (hdd : dd ≤ 3) :
    zSP (d + 1) 0 0 mM_firstStates [.inr (.inr 27), .inl (nI P.np), .inl (nI dd)] h0 (fun r h' => r = .inl (some (.inl (fBo true))) ∧ zMl P (xFs P dd 64) h' ∧ zFr h0 h') := by
  suffices main : ∀ K : zR → zH → Prop, (∀ h', zMl P (xFs P dd 64) h' → zFr h0 h' → K (.inl (some (.inl (fBo true)))) h') → zSP (d + 1) 0 0 mM_firstStates [.inr (.inr 27), .inl (nI P.np), .inl (nI dd)] h0 K from main _ (fun h' a b => ⟨rfl, a, b⟩)
  intro K hK
  have n1 := hP.n1
  have n3 := hP.n3
  have v2 := hP.v2
  have v5 := hP.v5
  obtain ⟨R1, hR1, eR1⟩ := hP.rg 1 (by omega)
  have eR : (P.W 3).toNatClampNeg = R1 := by rw [show (3 : Nat) = 2 + 1 from rfl, eR1, nI_clamp (by omega)]
  have outer : ∀ (m c : Nat) (H : zH), c + m = 64 → zMl P (xFs P dd c) H → zFr h0 H → zMC false (d + 1) 0 0 0 0 mM_firstStates K 5 [some (.inr (.inr 27)), some (.inl (nI P.np)), some (.inl (nI dd)), some (.inl (fBo true)), some (.inl (nI c)), none, none, none, none] [] H := by
    intro m
    induction m with
    | zero =>
      intro c H hc hl hr
      have e : c = 64 := by omega
      subst e
      refine r_iload (zdk oM_firstStates 4 rfl) rfl ?_
      refine r_bipush (v := 64) (zdk oM_firstStates 5 rfl) (by decide) ?_
      refine r_icmp_ge (tgt := 138) (zdk oM_firstStates 6 rfl) (by decide) (fun _ => ?_) (fun q9 => absurd ((Int32.le_refl (nI 64))) q9)
      refine r_iload_n (zdk oM_firstStates 79 rfl) rfl rfl ?_
      refine r_zret (zdk oM_firstStates 80 rfl) rfl (Or.inr rfl) ?_
      exact hK H hl hr
    | succ m ih =>
      intro c H hc hl hr
      have inner : ∀ (k p : Nat) (H2 : zH), p + k = P.np → (∀ i v, i < p → v < P.vars → H2.1 34 (5 * i + v) = nI (if v = 1 then min R1 (xQ P.np c i) else 0)) → (∀ a j, a ≠ 34 → H2.1 a j = H.1 a j) → H2.2 = H.2 →
          zMC false (d + 1) 0 0 0 0 mM_firstStates K 35 [some (.inr (.inr 27)), some (.inl (nI P.np)), some (.inl (nI dd)), some (.inl (fBo true)), some (.inl (nI c)), some (.inl (nI (xMs P.np c p))), some (.inl (fBo (xFt P.np dd c p))), some (.inl (nI p)), none] [] H2 := by
        intro k
        induction k with
        | zero =>
          intro p H2 hp s2 o2 l2
          have e : p = P.np := by omega
          subst e
          have hl2 : zMl P (xFs P dd c) H2 := hl.congr (fun a j ha => o2 a j (by omega)) l2
          have hr2 : zFr h0 H2 := ⟨fun a j c1 c2 c3 c4 c5 c6 c7 c8 c9 => by rw [o2 a j c3]; exact hr.1 a j c1 c2 c3 c4 c5 c6 c7 c8 c9, fun a j c1 => by rw [l2]; exact hr.2 a j c1⟩
          obtain ⟨en, ee⟩ := xFs_n P dd c (by omega)
          refine r_iload (zdk oM_firstStates 22 rfl) rfl ?_
          refine r_iload_n (zdk oM_firstStates 23 rfl) rfl rfl ?_
          refine r_icmp_ge (tgt := 97) (zdk oM_firstStates 24 rfl) (by decide) (fun _ => ?_) (fun q9 => absurd ((Int32.le_refl (nI P.np))) q9)
          refine r_iload_n (zdk oM_firstStates 58 rfl) rfl rfl ?_
          refine r_if_eq (tgt := 130) (zdk oM_firstStates 59 rfl) (by decide) (fun q9 => absurd q9 ((fBo_t))) (fun _ => ?_)
          refine r_iload (zdk oM_firstStates 60 rfl) rfl ?_
          cases hF : xFt P.np dd c P.np with
          | false =>
            refine r_if_eq (tgt := 126) (zdk oM_firstStates 61 rfl) (by decide) (fun _ => ?_) (fun q9 => absurd ((rfl)) q9)
            refine r_iconst (v := 1) (zdk oM_firstStates 73 rfl) (by decide) ?_
            refine r_goto (tgt := 131) (zdk oM_firstStates 74 rfl) (by decide) ?_
            refine r_istore_n (zdk oM_firstStates 76 rfl) rfl (Nat.le_of_ble_eq_true rfl) rfl ?_
            first | refine r_iinc (zdk oM_firstStates 77 rfl) rfl (zinc _) rfl ?_ | refine r_iinc (zdk oM_firstStates 77 rfl) rfl rfl rfl ?_
            refine r_goto (tgt := 5) (zdk oM_firstStates 78 rfl) (by decide) ?_
            refine r_mask [true, true, true, true, true, false, false, false, false] rfl rfl ?_
            refine ih (c + 1) H2 (by omega) ?_ hr2
            unfold xFs
            rw [if_neg (by rw [hF]; decide)]
            exact hl2
          | true =>
            have hok := xF_ok hP hdd hF
            have hm8 := xMs8 hdd _ hF
            have e8 : H2.1 27 8 = nI P.vars := by rw [hr2.1 27 8 (by omega) (by decide) (by decide) (by decide) (by decide) (by decide) (by decide) (by decide) (by decide), k8]
            have ecode : xRc (fun t => xD (xF P c) (xT P.vars t)) (xMs P.np c P.np) (P.np * P.vars) = xR P.np P.vars (xF P c) := by
              unfold xR
              rw [show xF P c / 16 ^ 15 = xMs P.np c P.np from xK_top (fun j => xFf_lt P c j)]
            refine r_if_eq (tgt := 126) (zdk oM_firstStates 61 rfl) (by decide) (fun q9 => absurd q9 ((fBo_t))) (fun _ => ?_)
            refine r_aload_n (zdk oM_firstStates 62 rfl) rfl rfl ?_
            refine r_iconst (v := 0) (zdk oM_firstStates 63 rfl) (by decide) ?_
            refine r_aload_n (zdk oM_firstStates 64 rfl) rfl rfl ?_
            refine r_iload_n (zdk oM_firstStates 65 rfl) rfl rfl ?_
            refine r_iload (zdk oM_firstStates 66 rfl) rfl ?_
            refine r_callV2j (M' := mM_code) (zdk oM_firstStates 67 rfl) lM_M_194 vM_code rfl rfl (Nat.le_of_ble_eq_true rfl) rfl (spM_code d H2 P.np P.vars (xMs P.np c P.np) (xD (xF P c)) e8 n3 v5 hm8 (fun i v hi hv => ⟨xD_lt _ _, by rw [s2 i v hi hv, xF_dig hP hi hv, eR]⟩)) ?_
            rw [ecode]
            refine r_iconst (v := -1) (zdk oM_firstStates 68 rfl) (by decide) ?_
            refine r_iload (zdk oM_firstStates 69 rfl) rfl ?_
            refine r_iload (zdk oM_firstStates 70 rfl) rfl ?_
            refine r_callV5 (M' := mM_add) (zdk oM_firstStates 71 rfl) lM_M_198 vM_add rfl rfl (Nat.le_of_ble_eq_true rfl) rfl (spM_add d H2 0 (xFs P dd c).n (nJ (xR P.np P.vars (xF P c))) (-1) (nI c) (nI (xMs P.np c P.np)) hl2.1 (Nat.zero_le _) hl2.2.1) ?_
            intro r h5 hq
            have e15 : xMs P.np c P.np = xF P c / 16 ^ 15 := (xK_top (fun j => xFf_lt P c j)).symm
            rw [e15] at hq
            obtain ⟨er, l5, o5, p5⟩ := zMl_add hP hl2 hok (show c < 512 by omega) ee hq
            have hs : xFs P dd (c + 1) = xTry 0 (xF P c) (-1) c (xFs P dd c) := by
              show (if xFt P.np dd c P.np = true then _ else _) = _
              rw [if_pos hF]
            rw [← hs] at er l5
            obtain ⟨en', ee'⟩ := xFs_n P dd (c + 1) (by omega)
            rw [ee'] at er
            cases er
            refine r_if_eq (tgt := 130) (zdk oM_firstStates 72 rfl) (by decide) (fun q9 => absurd q9 ((show ¬ fBo (decide ((none : Option (Option (Nat × Nat × Nat × Nat))) = none)) = 0 by decide))) (fun _ => ?_)
            refine r_iconst (v := 1) (zdk oM_firstStates 73 rfl) (by decide) ?_
            refine r_goto (tgt := 131) (zdk oM_firstStates 74 rfl) (by decide) ?_
            refine r_istore_n (zdk oM_firstStates 76 rfl) rfl (Nat.le_of_ble_eq_true rfl) rfl ?_
            first | refine r_iinc (zdk oM_firstStates 77 rfl) rfl (zinc _) rfl ?_ | refine r_iinc (zdk oM_firstStates 77 rfl) rfl rfl rfl ?_
            refine r_goto (tgt := 5) (zdk oM_firstStates 78 rfl) (by decide) ?_
            refine r_mask [true, true, true, true, true, false, false, false, false] rfl rfl ?_
            refine ih (c + 1) h5 (by omega) l5 ⟨fun a j c1 c2 c3 c4 c5 c6 c7 c8 c9 => by rw [o5 a j (by omega) c7 c8 c9]; exact hr2.1 a j c1 c2 c3 c4 c5 c6 c7 c8 c9, fun a j c1 => by rw [p5 a j c1]; exact hr2.2 a j c1⟩
        | succ k ih2 =>
          intro p H2 hp s2 o2 l2
          have hq4 := xQ4 P.np c p
          have e28 : H2.1 28 3 = nI R1 := by rw [o2 28 3 (by decide), hr.1 28 3 (by omega) (by decide) (by decide) (by decide) (by decide) (by decide) (by decide) (by decide) (by decide), hW 3, show (3 : Nat) = 2 + 1 from rfl, eR1]
          have fin : zMC false (d + 1) 0 0 0 0 mM_firstStates K 72 [some (.inr (.inr 27)), some (.inl (nI P.np)), some (.inl (nI dd)), some (.inl (fBo true)), some (.inl (nI c)), some (.inl (nI (xMs P.np c p))), some (.inl (fBo (xFt P.np dd c p))), some (.inl (nI p)), some (.inl (nI (xQ P.np c p)))] [.inl (fBo (xFt P.np dd c (p + 1)))] H2 := by
            refine r_istore (zdk oM_firstStates 45 rfl) (Nat.le_of_ble_eq_true rfl) rfl ?_
            refine r_iload (zdk oM_firstStates 46 rfl) rfl ?_
            refine r_iconst (v := 1) (zdk oM_firstStates 47 rfl) (by decide) ?_
            refine r_iload (zdk oM_firstStates 48 rfl) rfl ?_
            refine r_ishl (zdk oM_firstStates 49 rfl) ?_
            refine r_ior (zdk oM_firstStates 50 rfl) ?_
            refine r_tp (xMs_i (xMs16 (np := P.np) (c := c) p) hq4) ?_
            refine r_istore (zdk oM_firstStates 51 rfl) (Nat.le_of_ble_eq_true rfl) rfl ?_
            refine r_aload_n (zdk oM_firstStates 52 rfl) rfl rfl ?_
            refine r_iload (zdk oM_firstStates 53 rfl) rfl ?_
            refine r_iload (zdk oM_firstStates 54 rfl) rfl ?_
            refine r_callV2v (M' := mM_begin) (zdk oM_firstStates 55 rfl) lM_M_170 vM_begin rfl rfl (Nat.le_of_ble_eq_true rfl) rfl (spM_begin d H2 p (nI (xQ P.np c p)) (by omega)) ?_
            first | refine r_iinc (zdk oM_firstStates 56 rfl) rfl (zinc _) rfl ?_ | refine r_iinc (zdk oM_firstStates 56 rfl) rfl rfl rfl ?_
            refine r_goto (tgt := 35) (zdk oM_firstStates 57 rfl) (by decide) ?_
            refine r_mask [true, true, true, true, true, true, true, true, false] rfl rfl ?_
            refine ih2 (p + 1) _ (by omega) ?_ ?_ l2
            · intro i v hi hv
              rw [zMbg1, e28]
              by_cases q : i = p
              · subst q
                rw [if_pos (by omega)]
                by_cases q1 : v = 1
                · rw [if_pos (by omega), if_pos q1, nI_min (a := xQ P.np c i) (b := R1) (by omega) (by omega), Nat.min_comm]
                · rw [if_neg (by omega), if_neg q1]; rfl
              · rw [if_neg (by omega)]; exact s2 i v (by omega) hv
            · intro a j ha
              rw [zMbg1, if_neg (fun z => ha z.1)]; exact o2 a j ha
          rw [show xFt P.np dd c (p + 1) = (xFt P.np dd c p && decide (xQ P.np c p < dd)) from rfl] at fin
          refine r_iload (zdk oM_firstStates 22 rfl) rfl ?_
          refine r_iload_n (zdk oM_firstStates 23 rfl) rfl rfl ?_
          refine r_icmp_ge (tgt := 97) (zdk oM_firstStates 24 rfl) (by decide) (fun q9 => absurd q9 ((nI_ge (a := p) (b := P.np) (by omega) (by omega)))) (fun _ => ?_)
          refine r_iload (zdk oM_firstStates 25 rfl) rfl ?_
          refine r_iconst (v := 2) (zdk oM_firstStates 26 rfl) (by decide) ?_
          refine r_iload_n (zdk oM_firstStates 27 rfl) rfl rfl ?_
          refine r_iconst (v := 1) (zdk oM_firstStates 28 rfl) (by decide) ?_
          refine r_isub (zdk oM_firstStates 29 rfl) ?_
          refine r_iload (zdk oM_firstStates 30 rfl) rfl ?_
          refine r_isub (zdk oM_firstStates 31 rfl) ?_
          refine r_imul (zdk oM_firstStates 32 rfl) ?_
          refine r_ishr (zdk oM_firstStates 33 rfl) ?_
          refine r_iconst (v := 3) (zdk oM_firstStates 34 rfl) (by decide) ?_
          refine r_iand (zdk oM_firstStates 35 rfl) ?_
          refine r_tp (xQ_i n3 (show c < 64 by omega) (show p < P.np by omega)) ?_
          refine r_istore (zdk oM_firstStates 36 rfl) (Nat.le_of_ble_eq_true rfl) rfl ?_
          refine r_iload (zdk oM_firstStates 37 rfl) rfl ?_
          cases hF : xFt P.np dd c p with
          | false =>
            rw [hF] at fin
            refine r_if_eq (tgt := 71) (zdk oM_firstStates 38 rfl) (by decide) (fun _ => ?_) (fun q9 => absurd ((rfl)) q9)
            refine r_iconst (v := 0) (zdk oM_firstStates 44 rfl) (by decide) ?_
            exact fin
          | true =>
            rw [hF] at fin
            refine r_if_eq (tgt := 71) (zdk oM_firstStates 38 rfl) (by decide) (fun q9 => absurd q9 ((fBo_t))) (fun _ => ?_)
            refine r_iload (zdk oM_firstStates 39 rfl) rfl ?_
            refine r_iload_n (zdk oM_firstStates 40 rfl) rfl rfl ?_
            by_cases q : xQ P.np c p < dd
            · refine r_icmp_ge (tgt := 71) (zdk oM_firstStates 41 rfl) (by decide) (fun q9 => absurd q9 ((nI_ge q (by omega)))) (fun _ => ?_)
              refine r_iconst (v := 1) (zdk oM_firstStates 42 rfl) (by decide) ?_
              refine r_goto (tgt := 72) (zdk oM_firstStates 43 rfl) (by decide) ?_
              rw [show (true && decide (xQ P.np c p < dd)) = true by simp [q]] at fin
              exact fin
            · refine r_icmp_ge (tgt := 71) (zdk oM_firstStates 41 rfl) (by decide) (fun _ => ?_) (fun q9 => absurd ((nI_lel (by omega) (by omega))) q9)
              refine r_iconst (v := 0) (zdk oM_firstStates 44 rfl) (by decide) ?_
              rw [show (true && decide (xQ P.np c p < dd)) = false by simp [q]] at fin
              exact fin
      have start : zMC false (d + 1) 0 0 0 0 mM_firstStates K 30 [some (.inr (.inr 27)), some (.inl (nI P.np)), some (.inl (nI dd)), some (.inl (fBo true)), some (.inl (nI c)), some (.inl 0), none, none, none] [.inl (fBo (decide (c < 2 ^ (2 * P.np))))] H := by
        refine r_istore (zdk oM_firstStates 19 rfl) (Nat.le_of_ble_eq_true rfl) rfl ?_
        refine r_iconst (v := 0) (zdk oM_firstStates 20 rfl) (by decide) ?_
        refine r_istore (zdk oM_firstStates 21 rfl) (Nat.le_of_ble_eq_true rfl) rfl ?_
        exact inner P.np 0 H (by omega) (fun i v hi => by omega) (fun _ _ _ => rfl) rfl
      obtain ⟨e2, b2⟩ := x2n n3
      refine r_iload (zdk oM_firstStates 4 rfl) rfl ?_
      refine r_bipush (v := 64) (zdk oM_firstStates 5 rfl) (by decide) ?_
      refine r_icmp_ge (tgt := 138) (zdk oM_firstStates 6 rfl) (by decide) (fun q9 => absurd q9 ((nI_ge (a := c) (b := 64) (by omega) (by decide)))) (fun _ => ?_)
      refine r_iconst (v := 0) (zdk oM_firstStates 7 rfl) (by decide) ?_
      refine r_istore (zdk oM_firstStates 8 rfl) (Nat.le_of_ble_eq_true rfl) rfl ?_
      refine r_iload (zdk oM_firstStates 9 rfl) rfl ?_
      refine r_iconst (v := 1) (zdk oM_firstStates 10 rfl) (by decide) ?_
      refine r_iconst (v := 2) (zdk oM_firstStates 11 rfl) (by decide) ?_
      refine r_iload_n (zdk oM_firstStates 12 rfl) rfl rfl ?_
      refine r_imul (zdk oM_firstStates 13 rfl) ?_
      refine r_ishl (zdk oM_firstStates 14 rfl) ?_
      rw [e2]
      by_cases q : c < 2 ^ (2 * P.np)
      · refine r_icmp_ge (tgt := 29) (zdk oM_firstStates 15 rfl) (by decide) (fun q9 => absurd q9 ((nI_ge q (by omega)))) (fun _ => ?_)
        refine r_iconst (v := 1) (zdk oM_firstStates 16 rfl) (by decide) ?_
        refine r_goto (tgt := 30) (zdk oM_firstStates 17 rfl) (by decide) ?_
        rw [show decide (c < 2 ^ (2 * P.np)) = true by simp [q]] at start
        exact start
      · refine r_icmp_ge (tgt := 29) (zdk oM_firstStates 15 rfl) (by decide) (fun _ => ?_) (fun q9 => absurd ((nI_lel (by omega) (by omega))) q9)
        refine r_iconst (v := 0) (zdk oM_firstStates 18 rfl) (by decide) ?_
        rw [show decide (c < 2 ^ (2 * P.np)) = false by simp [q]] at start
        exact start
  refine zmet (by decide +kernel) (Nat.le_of_ble_eq_true rfl) ?_
  refine r_iconst (v := 1) (zdk oM_firstStates 0 rfl) (by decide) ?_
  refine r_istore_n (zdk oM_firstStates 1 rfl) rfl (Nat.le_of_ble_eq_true rfl) rfl ?_
  refine r_iconst (v := 0) (zdk oM_firstStates 2 rfl) (by decide) ?_
  refine r_istore (zdk oM_firstStates 3 rfl) (Nat.le_of_ble_eq_true rfl) rfl ?_
  exact outer 64 0 h0 (by omega) ⟨hf, by show 0 ≤ 200; omega, fun i hi => absurd hi (Nat.not_lt_zero i)⟩ (zFr.refl h0)
