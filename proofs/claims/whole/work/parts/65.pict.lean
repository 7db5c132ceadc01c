/-! the picture of a search -/
abbrev xP := (Nat → Int32) × Nat × Nat × Nat × Nat × Nat
abbrev xP.W (P : xP) : Nat → Int32 := P.1
abbrev xP.n (P : xP) : Nat := P.2.1
abbrev xP.vars (P : xP) : Nat := P.2.2.1
abbrev xP.ph (P : xP) : Nat := P.2.2.2.1
abbrev xP.np (P : xP) : Nat := P.2.2.2.2.1
abbrev xP.kd (P : xP) : Nat := P.2.2.2.2.2
def xPok (P : xP) : Prop := (qH P.W P.n P.vars P.ph) ∧ (1 ≤ P.ph) ∧ (P.ph ≤ 4) ∧ (2 ≤ P.vars) ∧ (P.vars ≤ 5) ∧ (1 ≤ P.np) ∧ (P.np ≤ 3) ∧ (P.n ≤ 400) ∧ (P.kd ≤ 3) ∧ (∀ v, v < P.vars → ∃ k, k ≤ 15 ∧ P.W (2 + v) = nI k)
theorem xPok.hq {P : xP} (h : xPok P) : qH P.W P.n P.vars P.ph := h.1
theorem xPok.p1 {P : xP} (h : xPok P) : 1 ≤ P.ph := h.2.1
theorem xPok.p4 {P : xP} (h : xPok P) : P.ph ≤ 4 := h.2.2.1
theorem xPok.v2 {P : xP} (h : xPok P) : 2 ≤ P.vars := h.2.2.2.1
theorem xPok.v5 {P : xP} (h : xPok P) : P.vars ≤ 5 := h.2.2.2.2.1
theorem xPok.n1 {P : xP} (h : xPok P) : 1 ≤ P.np := h.2.2.2.2.2.1
theorem xPok.n3 {P : xP} (h : xPok P) : P.np ≤ 3 := h.2.2.2.2.2.2.1
theorem xPok.n4 {P : xP} (h : xPok P) : P.n ≤ 400 := h.2.2.2.2.2.2.2.1
theorem xPok.k3 {P : xP} (h : xPok P) : P.kd ≤ 3 := h.2.2.2.2.2.2.2.2.1
theorem xPok.rg {P : xP} (h : xPok P) : ∀ v, v < P.vars → ∃ k, k ≤ 15 ∧ P.W (2 + v) = nI k := h.2.2.2.2.2.2.2.2.2
def dg (K j : Nat) : Int32 := nI (xD K j)
def xNv (P : xP) (r K c p v : Nat) : Int32 := pNxt P.W P.n P.vars P.ph P.np r (dg K) (pMsg P.W P.n P.vars P.ph P.np r (dg K)) (nI (xSt P.np c p)) p v
def xNf (P : xP) (r K c j : Nat) : Nat := if j / 5 < P.np ∧ j % 5 < P.vars then (xNv P r K c (j / 5) (j % 5)).toNatClampNeg else 0
def xNx (P : xP) (r K c : Nat) : Nat := xK (xNf P r K c) (K / 16 ^ 15)
theorem dg_good (K j : Nat) : fGood (dg K j) := nI_good (by have := xD_lt K j; omega)
theorem xNv_rng {P : xP} (hP : xPok P) {r K c p v : Nat} (hp : p < P.np) (hv : v < P.vars) : ∃ k, k ≤ 15 ∧ xNv P r K c p v = nI k := by
  obtain ⟨R, hR, eR⟩ := hP.rg v hv
  have n3 := hP.n3
  obtain ⟨k, hk, e⟩ := pNxt_rng (r := r) (val := dg K) (m := pMsg P.W P.n P.vars P.ph P.np r (dg K)) (s := nI (xSt P.np c p)) hP.hq hP.p1 hP.v5 hp (show P.np ≤ 7 by omega) hv (fun v _ => dg_good K _) (fun i hi => pMsg_good hP.hq hP.p1 hP.v2 hP.v5 hi (by omega) (fun v _ => dg_good K _)) hR eR
  exact ⟨k, by omega, e⟩
theorem xNf_lt {P : xP} (hP : xPok P) {r K c : Nat} (j : Nat) : xNf P r K c j < 16 := by
  unfold xNf
  split
  · rename_i q
    obtain ⟨k, hk, e⟩ := xNv_rng hP (r := r) (K := K) (c := c) q.1 q.2
    rw [e, nI_clamp (by omega)]; omega
  · omega
theorem x5 {p v : Nat} (hv : v < 5) : (5 * p + v) / 5 = p ∧ (5 * p + v) % 5 = v := by omega
theorem xNx_dig {P : xP} (hP : xPok P) {r K c p v : Nat} (hp : p < P.np) (hv : v < P.vars) : nI (xD (xNx P r K c) (5 * p + v)) = xNv P r K c p v := by
  have n3 := hP.n3
  have v5 := hP.v5
  unfold xNx
  rw [xD_K (fun j => xNf_lt hP j) (by omega)]
  unfold xNf
  obtain ⟨e1, e2⟩ := x5 (p := p) (v := v) (by omega)
  rw [e1, e2, if_pos ⟨hp, hv⟩]
  obtain ⟨k, hk, e⟩ := xNv_rng hP (r := r) (K := K) (c := c) hp hv
  rw [e, nI_clamp (by omega)]
theorem xNx_top {P : xP} (hP : xPok P) {r K c : Nat} : xNx P r K c / 16 ^ 15 = K / 16 ^ 15 := xK_top (fun j => xNf_lt hP j)
theorem xtop8 {K : Nat} (h : K < 2 ^ 63) : K / 16 ^ 15 < 8 := Nat.div_lt_of_lt_mul (by rw [show 16 ^ 15 * 8 = 2 ^ 63 by decide]; exact h)
theorem xNx_ok {P : xP} (hP : xPok P) {r K c : Nat} (h : xOk P.np P.vars K) : xOk P.np P.vars (xNx P r K c) := by
  refine ⟨xK_lt (fun j => xNf_lt hP j) (xtop8 h.1), fun j hj hn => ?_⟩
  unfold xNx
  rw [xD_K (fun j => xNf_lt hP j) hj]
  unfold xNf
  rw [if_neg hn]
/-- the states found, whence and by what; none: it goes on; some none: more than 200; else the violation, the index, the hearing and the rounds -/
abbrev xZ := Nat × (Nat → Nat) × (Nat → Int32) × (Nat → Nat) × Option (Option (Nat × Nat × Nat × Nat))
abbrev xZ.n (s : xZ) : Nat := s.1
abbrev xZ.K (s : xZ) : Nat → Nat := s.2.1
abbrev xZ.pa (s : xZ) : Nat → Int32 := s.2.2.1
abbrev xZ.co (s : xZ) : Nat → Nat := s.2.2.2.1
abbrev xZ.e (s : xZ) : Option (Option (Nat × Nat × Nat × Nat)) := s.2.2.2.2
abbrev xZ.fin (s : xZ) (e : Option (Option (Nat × Nat × Nat × Nat))) : xZ := (s.n, s.K, s.pa, s.co, e)
abbrev xZ.put (s : xZ) (K : Nat) (pa : Int32) (c : Nat) : xZ := (s.n + 1, fun j => if j = s.n then K else s.K j, fun j => if j = s.n then pa else s.pa j, fun j => if j = s.n then c else s.co j, s.e)
def xHas (s : xZ) (lo K : Nat) : Prop := ∃ j, lo ≤ j ∧ j < s.n ∧ s.K j = K
noncomputable def xTry (lo K : Nat) (pa : Int32) (c : Nat) (s : xZ) : xZ :=
  @ite _ (xHas s lo K) (Classical.propDecidable _) s (if s.n = 200 then s.fin (some none) else s.put K pa c)
def xV (np K K' : Nat) : Nat := xVi (fun p => xD K' (5 * p)) (fun p => xD K (5 * p)) (K / 16 ^ 15) np
noncomputable def xGo (P : xP) (r lo i : Nat) (s : xZ) (c : Nat) : xZ :=
  if s.e ≠ none then s else if xLd P.np c P.kd = false then s else if xV P.np (s.K i) (xNx P r (s.K i) c) ≠ 0 then s.fin (some (some (xV P.np (s.K i) (xNx P r (s.K i) c), i, c, r + 1))) else xTry lo (xNx P r (s.K i) c) (nI i) c s
noncomputable def xIn (P : xP) (r lo i : Nat) (s : xZ) : Nat → xZ
  | 0 => s
  | c + 1 => xGo P r lo i (xIn P r lo i s c) c
noncomputable def xLv (P : xP) (r lo f : Nat) (s : xZ) : Nat → xZ
  | 0 => s
  | k + 1 => xIn P r lo (f + k) (xLv P r lo f s k) (2 ^ (P.np * P.np))
noncomputable def xRs (P : xP) (s : xZ) : Nat → xZ × Nat
  | 0 => (s, 0)
  | r + 1 => if (xRs P s r).1.e ≠ none then xRs P s r else (xLv P r (xRs P s r).1.n (xRs P s r).2 (xRs P s r).1 ((xRs P s r).1.n - (xRs P s r).2), (xRs P s r).1.n)
/-- the first states -/
def xQ (np c p : Nat) : Nat := c / 4 ^ (np - 1 - p) % 4
def xFt (np d c : Nat) : Nat → Bool
  | 0 => decide (c < 2 ^ (2 * np))
  | p + 1 => xFt np d c p && decide (xQ np c p < d)
def xMs (np c : Nat) : Nat → Nat
  | 0 => 0
  | p + 1 => xMs np c p ||| 2 ^ xQ np c p
def xFf (P : xP) (c j : Nat) : Nat := if j / 5 < P.np ∧ j % 5 = 1 then min (P.W 3).toNatClampNeg (xQ P.np c (j / 5)) else 0
def xF (P : xP) (c : Nat) : Nat := xK (xFf P c) (xMs P.np c P.np)
def xZ0 : xZ := (0, fun _ => 0, fun _ => 0, fun _ => 0, none)
noncomputable def xFs (P : xP) (d : Nat) : Nat → xZ
  | 0 => xZ0
  | c + 1 => if xFt P.np d c P.np = true then xTry 0 (xF P c) (-1) c (xFs P d c) else xFs P d c
theorem xFs_n (P : xP) (d : Nat) : ∀ c, c ≤ 200 → (xFs P d c).n ≤ c ∧ (xFs P d c).e = none
  | 0, _ => ⟨Nat.le_refl 0, rfl⟩
  | c + 1, h => by
    obtain ⟨i1, i2⟩ := xFs_n P d c (by omega)
    unfold xFs
    split
    · unfold xTry
      split
      · exact ⟨by omega, i2⟩
      · rw [if_neg (by omega)]
        exact ⟨by show (xFs P d c).n + 1 ≤ c + 1; omega, i2⟩
    · exact ⟨by omega, i2⟩
theorem xQ4 (np c p : Nat) : xQ np c p < 4 := Nat.mod_lt _ (by decide)
theorem xFf_lt (P : xP) (c j : Nat) : xFf P c j < 16 := by
  unfold xFf
  split
  · have := xQ4 P.np c (j / 5); omega
  · omega
theorem xMs8 {np d c : Nat} (hd : d ≤ 3) : ∀ p, xFt np d c p = true → xMs np c p < 8
  | 0, _ => by show 0 < 8; decide
  | p + 1, h => by
    unfold xFt at h
    rw [Bool.and_eq_true, decide_eq_true_eq] at h
    have h1 := xMs8 hd p h.1
    have h2 : 2 ^ xQ np c p < 8 := by
      have : xQ np c p = 0 ∨ xQ np c p = 1 ∨ xQ np c p = 2 := by omega
      rcases this with e | e | e <;> rw [e] <;> decide
    exact Nat.or_lt_two_pow (n := 3) h1 h2
theorem xF_ok {P : xP} (hP : xPok P) {d c : Nat} (hd : d ≤ 3) (hf : xFt P.np d c P.np = true) : xOk P.np P.vars (xF P c) := by
  have v2 := hP.v2
  refine ⟨xK_lt (fun j => xFf_lt P c j) (xMs8 hd _ hf), fun j hj hn => ?_⟩
  unfold xF
  rw [xD_K (fun j => xFf_lt P c j) hj]
  unfold xFf
  rw [if_neg (by omega)]
