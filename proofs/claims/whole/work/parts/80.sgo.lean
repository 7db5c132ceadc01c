/-! the class's search: going on from a state -/
theorem nx_dig {f : Nat → Nat} {p j : Nat} : ∀ m, m ≤ 5 → (∀ v, v < m → f v < 16) → xD (nx f p m) j = if j / 5 = p ∧ j % 5 < m then f (j % 5) else 0
  | 0, _, _ => by
    show 0 / 16 ^ j % 16 = _
    rw [if_neg (by omega)]; simp
  | m + 1, h, hf => by
    show xD (nx f p m ||| f m * 16 ^ (5 * p + m)) j = _
    rw [xD_or, nx_dig m (by omega) (fun v hv => hf v (by omega)), xD_one (hf m (by omega))]
    by_cases q : j = 5 * p + m
    · have e1 : j / 5 = p := by omega
      have e2 : j % 5 = m := by omega
      rw [if_pos q, if_neg (by omega), if_pos (by omega), e2, Nat.zero_or]
    · rw [if_neg q, Nat.or_zero]
      by_cases q2 : j / 5 = p ∧ j % 5 < m
      · rw [if_pos q2, if_pos (by omega)]
      · rw [if_neg q2, if_neg (by omega)]
theorem nx_top {f : Nat → Nat} {p : Nat} (hp : p < 3) : ∀ m, m ≤ 5 → (∀ v, v < m → f v < 16) → nx f p m / 16 ^ 15 = 0
  | 0, _, _ => by show 0 / 16 ^ 15 = 0; simp
  | m + 1, h, hf => by
    show (nx f p m ||| f m * 16 ^ (5 * p + m)) / 16 ^ 15 = 0
    rw [xtop_or, nx_top hp m (by omega) (fun v hv => hf v (by omega)), xtop_one (hf m (by omega)) (by omega)]
    rfl
/-- what a process comes to, a set -/
def nV (P : xP) (r K p k v : Nat) : Int32 := pNxt P.W P.n P.vars P.ph P.np r (dg K) (pMsg P.W P.n P.vars P.ph P.np r (dg K)) (nI k) p v
def nN (P : xP) (r K p k : Nat) : Nat := nx (fun v => (nV P r K p k v).toNatClampNeg) p P.vars
theorem nV_rng {P : xP} (hP : xPok P) {r K k p v : Nat} (hp : p < P.np) (hv : v < P.vars) : ∃ q, q ≤ 15 ∧ nV P r K p k v = nI q := by
  obtain ⟨R, hR, eR⟩ := hP.rg v hv
  have n3 := hP.n3
  obtain ⟨q, hq, e⟩ := pNxt_rng (r := r) (val := dg K) (m := pMsg P.W P.n P.vars P.ph P.np r (dg K)) (s := nI k) hP.hq hP.p1 hP.v5 hp (show P.np ≤ 7 by omega) hv (fun v _ => dg_good K _) (fun i hi => pMsg_good hP.hq hP.p1 hP.v2 hP.v5 hi (by omega) (fun v _ => dg_good K _)) hR eR
  exact ⟨q, by omega, e⟩
theorem nV16 {P : xP} (hP : xPok P) {r K k p v : Nat} (hp : p < P.np) (hv : v < P.vars) : (nV P r K p k v).toNatClampNeg < 16 ∧ nV P r K p k v = nI (nV P r K p k v).toNatClampNeg := by
  obtain ⟨q, hq, e⟩ := nV_rng hP (r := r) (K := K) (k := k) hp hv
  rw [e, nI_clamp (by omega)]
  exact ⟨by omega, rfl⟩
theorem tg_dig {P : xP} (hP : xPok P) {r K c j : Nat} : ∀ m, m ≤ P.np → xD (tg (nN P r K) P.np c m) j = if j / 5 < m ∧ j % 5 < P.vars then (nV P r K (j / 5) (xSt P.np c (j / 5)) (j % 5)).toNatClampNeg else 0
  | 0, _ => by
    show 0 / 16 ^ j % 16 = _
    rw [if_neg (by omega)]; simp
  | m + 1, h => by
    show xD (tg (nN P r K) P.np c m ||| nx (fun v => (nV P r K m (xSt P.np c m) v).toNatClampNeg) m P.vars) j = _
    rw [xD_or, tg_dig hP m (by omega), nx_dig P.vars hP.v5 (fun v hv => (nV16 hP (by omega) hv).1)]
    by_cases q : j / 5 = m ∧ j % 5 < P.vars
    · rw [if_pos q, if_neg (by omega), if_pos (by omega), Nat.zero_or, q.1]
    · rw [if_neg q, Nat.or_zero]
      by_cases q2 : j / 5 < m ∧ j % 5 < P.vars
      · rw [if_pos q2, if_pos (by omega)]
      · rw [if_neg q2, if_neg (by omega)]
theorem tg_top {P : xP} (hP : xPok P) {r K c : Nat} : ∀ m, m ≤ P.np → tg (nN P r K) P.np c m / 16 ^ 15 = 0
  | 0, _ => by show 0 / 16 ^ 15 = 0; simp
  | m + 1, h => by
    have n3 := hP.n3
    show (tg (nN P r K) P.np c m ||| nx (fun v => (nV P r K m (xSt P.np c m) v).toNatClampNeg) m P.vars) / 16 ^ 15 = 0
    rw [xtop_or, tg_top hP m (by omega), nx_top (by omega) P.vars hP.v5 (fun v hv => (nV16 hP (by omega) hv).1)]
    rfl
theorem tg_all {P : xP} (hP : xPok P) {r K c : Nat} (hK : K < 2 ^ 63) : K / 16 ^ 15 * 16 ^ 15 ||| tg (nN P r K) P.np c P.np = xNx P r K c := by
  have hg := xtop8 hK
  refine xD_ext ?_ (fun j hj => ?_)
  · rw [xtop_or, tg_top hP P.np (Nat.le_refl _), Nat.mul_div_cancel _ (by decide), Nat.or_zero, xNx_top hP]
  · rw [xD_or, tg_dig hP P.np (Nat.le_refl _), xD_one (by omega), if_neg (by omega), Nat.zero_or]
    unfold xNx
    rw [xD_K (fun j => xNf_lt hP j) hj]
    rfl
theorem xIn_jv {P : xP} {f lo r i : Nat} {s : xZ} (h : xJv f lo r s) (h1 : f ≤ i) (h2 : i < lo) : ∀ c, xJv f lo r (xIn P r lo i s c)
  | 0 => h
  | c + 1 => xGo_jv (xIn_jv h h1 h2 c) h1 h2
theorem zEndC.trans {P : xP} {s s' : xZ} {a b c : zH} (he : s.e = none) (h1 : zEndC P s a b) (h2 : zEndC P s' b c) : zEndC P s' a c := by
  unfold zEndC at h1 h2 ⊢
  rw [he] at h1
  obtain ⟨a1, a2, a3⟩ := h1
  match h : s'.e with
  | some (some (_, _, _, _)) => rw [h] at h2; exact h2
  | some none => rw [h] at h2; exact ⟨by rw [h2.1, a1], by rw [h2.2.1, a2], fun j => by rw [h2.2.2 j, a3 j]⟩
  | none => rw [h] at h2; exact ⟨by rw [h2.1, a1], by rw [h2.2.1, a2], fun j => by rw [h2.2.2 j, a3 j]⟩
/-- the search is ready -/
def zRdy (P : xP) (h : zH) : Prop := h.1 14 13 = nI P.np ∧ h.1 16 2 = nI P.np ∧ zChk h P.n P.ph P.vars ∧ (∀ j, h.1 2 j = P.W j) ∧ (∀ i, i < 7 → fGood (h.1 18 i)) ∧ h.1 14 12 = nI (hN P.np P.kd (2 ^ (P.np * P.np))) ∧ (∀ c, c < 2 ^ (P.np * P.np) → xLd P.np c P.kd = true → h.1 25 (hN P.np P.kd c) = nI c)
theorem zChk_cg {h H : zH} {n ph vars : Nat} (ho : ∀ a j, a = 1 ∨ a = 2 ∨ a = 3 ∨ a = 4 → H.1 a j = h.1 a j) (hc : zChk h n ph vars) : zChk H n ph vars := by
  obtain ⟨c1, c2, c3, c4, c5, c6, c7⟩ := hc
  refine ⟨by rw [ho 1 5 (by omega), c1], by rw [ho 1 6 (by omega), c2], c3, c4, c5, c6, fun e he => ?_⟩
  rw [show H.1 2 = h.1 2 from funext (fun j => ho 2 j (by omega)), ho 3 _ (by omega), ho 3 _ (by omega), ho 4 _ (by omega)]
  exact c7 e he
theorem zRdy.congr {P : xP} {h H : zH} (hr : zRdy P h) (ho : ∀ a j, (a = 1 ∨ a = 2 ∨ a = 3 ∨ a = 4 ∨ a = 25 ∨ (a = 14 ∧ (j = 12 ∨ j = 13)) ∨ (a = 16 ∧ j = 2)) → H.1 a j = h.1 a j) (hm : ∀ i, i < 7 → fGood (H.1 18 i)) : zRdy P H := by
  obtain ⟨r1, r2, r3, r4, r5, r6, r7⟩ := hr
  exact ⟨by rw [ho 14 13 (by omega), r1], by rw [ho 16 2 (by omega), r2], zChk_cg (fun a j ha => ho a j (by omega)) r3, fun j => by rw [ho 2 j (by omega), r4 j], hm, by rw [ho 14 12 (by omega), r6], fun c hc hl => by rw [ho 25 _ (by omega), r7 c hc hl]⟩
def zFq (h H : zH) : Prop := (∀ a j, ¬ (a = 14 ∧ (j = 0 ∨ j = 1 ∨ j = 2 ∨ j = 14 ∨ j = 15)) → a ≠ 15 → ¬ (a = 16 ∧ 5 ≤ j) → a ≠ 17 → a ≠ 18 → a ≠ 19 → a ≠ 20 → a ≠ 22 → a ≠ 23 → a ≠ 24 → H.1 a j = h.1 a j) ∧ (∀ a j, a ≠ 21 → a ≠ 26 → H.2 a j = h.2 a j)
theorem zFq.refl (h : zH) : zFq h h := ⟨fun _ _ _ _ _ _ _ _ _ _ _ _ => rfl, fun _ _ _ _ => rfl⟩
theorem zFq.trans {a b c : zH} (h1 : zFq a b) (h2 : zFq b c) : zFq a c := ⟨fun x j k1 k2 k3 k4 k5 k6 k7 k8 k9 k10 => by rw [h2.1 x j k1 k2 k3 k4 k5 k6 k7 k8 k9 k10, h1.1 x j k1 k2 k3 k4 k5 k6 k7 k8 k9 k10], fun x j k1 k2 => by rw [h2.2 x j k1 k2, h1.2 x j k1 k2]⟩
