/-! THE PICTURE of one process's values -/
def g2 (w : Int32) (i j : Nat) : Nat :=
  if w = 20 then min (i + j) 99 else if w = 21 then i - j else if w = 22 then min (i * j) 99 else if w = 23 then (if j = 0 then 0 else i / j) else if w = 24 then (if j = 0 then 0 else i % j)
  else if w = 25 then (if i = j then 1 else 0) else if w = 26 then (if i < j then 1 else 0) else if w = 27 then (if i ≠ 0 ∧ j ≠ 0 then 1 else 0) else (if i ≠ 0 ∨ j ≠ 0 then 1 else 0)
theorem g2_le {w : Int32} {i j : Nat} (hi : i ≤ 99) (hj : j ≤ 99) : g2 w i j ≤ 99 := by
  have h1 : i / j ≤ i := Nat.div_le_self i j
  have h2 : i % j ≤ i := Nat.mod_le i j
  unfold g2
  repeat' split
  all_goals omega
theorem f2_nat {w : Int32} {i j : Nat} (hi : i ≤ 99) (hj : j ≤ 99) : f2 w (nI i) (nI j) = nI (g2 w i j) := by
  have hm : i * j ≤ 99 * 99 := Nat.mul_le_mul hi hj
  have e0 : ∀ k, k ≤ 99 → (nI k = 0 ↔ k = 0) := fun k hk => nI_eq (a := k) (b := 0) (by omega) (by decide)
  unfold f2 g2
  by_cases c20 : w = 20
  · rw [if_pos c20, if_pos c20, nI_add, show (99 : Int32) = nI 99 from rfl, nI_min (by omega) (by omega)]
  rw [if_neg c20, if_neg c20]
  by_cases c21 : w = 21
  · rw [if_pos c21, if_pos c21]
    by_cases q : i < j
    · rw [if_pos (pk_sneg (by omega) q), show i - j = 0 by omega]; rfl
    · rw [pk_sub (by omega), if_neg (nI_pos (by omega))]
  rw [if_neg c21, if_neg c21]
  by_cases c22 : w = 22
  · rw [if_pos c22, if_pos c22, pk_mul, show (99 : Int32) = nI 99 from rfl, nI_min (by omega) (by omega)]
  rw [if_neg c22, if_neg c22]
  by_cases c23 : w = 23
  · rw [if_pos c23, if_pos c23]
    by_cases q : j = 0
    · rw [if_pos ((e0 j hj).mpr q), if_pos q]; rfl
    · rw [if_neg (fun z => q ((e0 j hj).mp z)), if_neg q, pk_div (by omega) (by omega) (by omega)]
  rw [if_neg c23, if_neg c23]
  by_cases c24 : w = 24
  · rw [if_pos c24, if_pos c24]
    by_cases q : j = 0
    · rw [if_pos ((e0 j hj).mpr q), if_pos q]; rfl
    · rw [if_neg (fun z => q ((e0 j hj).mp z)), if_neg q, pk_rem (by omega) (by omega) (by omega)]
  rw [if_neg c24, if_neg c24]
  by_cases c25 : w = 25
  · rw [if_pos c25, if_pos c25]
    simp only [nI_eq (show i < 2 ^ 31 by omega) (show j < 2 ^ 31 by omega), fBo, decide_eq_true_eq]
    split <;> rfl
  rw [if_neg c25, if_neg c25]
  by_cases c26 : w = 26
  · rw [if_pos c26, if_pos c26]
    simp only [nI_ltI (show i < 2 ^ 31 by omega) (show j < 2 ^ 31 by omega), fBo, decide_eq_true_eq]
    split <;> rfl
  rw [if_neg c26, if_neg c26]
  by_cases c27 : w = 27
  · rw [if_pos c27, if_pos c27]
    simp only [e0 i hi, e0 j hj, fBo, decide_eq_true_eq, ne_eq]
    split <;> rfl
  rw [if_neg c27, if_neg c27]
  simp only [e0 i hi, e0 j hj, fBo, decide_eq_true_eq, ne_eq]
  split <;> rfl
theorem f2_good {w a b : Int32} (ha : fGood a) (hb : fGood b) : fGood (f2 w a b) := by
  obtain ⟨i, hi, rfl⟩ := fGood_nat ha
  obtain ⟨j, hj, rfl⟩ := fGood_nat hb
  rw [f2_nat hi hj]
  exact nI_good (g2_le hi hj)
/-- where expression e begins and ends -/
def qB (W : Nat → Int32) (n vars e : Nat) : Nat := match qE W n vars e with
  | .inr p => p
  | .inl _ => 0
theorem qP_B {W : Nat → Int32} {n vars e p q dd : Nat} (h : qP W n vars e p q dd) : qB W n vars e = p ∧ qB W n vars (e + 1) = q := by
  refine ⟨by unfold qB; rw [h.1], ?_⟩
  unfold qB
  simp only [qE, h.1]
  rw [h.2]
/-- the value of expression e -/
def vE (W : Nat → Int32) (n vars e : Nat) (c0 : Int32 → Int32) (c1 : Int32 → Int32 → Int32) : Int32 := ((fRun (fStep c0 c1 f2) W (qB W n vars e) (qB W n vars (e + 1) - qB W n vars e) []).getD []).headD 0
theorem fStep_congr {c0 c0' : Int32 → Int32} {c1 c1' : Int32 → Int32 → Int32} {c2 : Int32 → Int32 → Int32 → Int32} {w : Int32} (h0 : fParts w = 0 → c0 w = c0' w) (h1 : fParts w = 1 → ∀ a, c1 w a = c1' w a) (s : List Int32) : fStep c0 c1 c2 w s = fStep c0' c1' c2 w s := by
  unfold fStep
  split
  · rename_i e; rw [h0 e]
  · rename_i e; rw [h1 e]
  · rfl
  · rfl
  · rfl
theorem fRun_congr {g g' : Int32 → List Int32 → Option (List Int32)} {W : Nat → Int32} {p : Nat} : ∀ {k : Nat} {s : List Int32}, (∀ i, p ≤ i → i < p + k → ∀ s, g (W i) s = g' (W i) s) → fRun g W p k s = fRun g' W p k s := by
  intro k
  induction k with
  | zero => intro s _; rfl
  | succ k ih =>
    intro s h
    simp only [fRun]
    rw [h (p + k) (by omega) (by omega)]
    cases g' (W (p + k)) s with
    | none => rfl
    | some s' => simp only [Option.bind_some]; exact ih (fun i h1 h2 => h i h1 (by omega))
/-- the value depends on the words that may stand there alone -/
theorem vE_congr {W : Nat → Int32} {n vars e p q dd : Nat} (hq : qP W n vars e p q dd) {c0 c0' : Int32 → Int32} {c1 c1' : Int32 → Int32 → Int32}
    (h0 : ∀ w, fCan w vars (decide (¬ e % (vars + 1) = 0)) = true → fParts w = 0 → c0 w = c0' w) (h1 : ∀ w a, fCan w vars (decide (¬ e % (vars + 1) = 0)) = true → fParts w = 1 → c1 w a = c1' w a) : vE W n vars e c0 c1 = vE W n vars e c0' c1' := by
  obtain ⟨e1, e2⟩ := qP_B hq
  unfold vE
  rw [e1, e2]
  obtain ⟨w1, w2, w3⟩ := pE_words 12 p q dd hq.2
  rw [fRun_congr (g' := fStep c0' c1' f2) (fun i i1 i2 s => fStep_congr (fun z => h0 _ (w3 i i1 (by omega)) z) (fun z a => h1 _ a (w3 i i1 (by omega)) z) s)]
theorem vE_good {W : Nat → Int32} {n vars e p q dd : Nat} (hq : qP W n vars e p q dd) {c0 : Int32 → Int32} {c1 : Int32 → Int32 → Int32} (hok : fOk vars (decide (¬ e % (vars + 1) = 0)) c0 c1 f2) :
    fGood (vE W n vars e c0 c1) ∧ fRun (fStep c0 c1 f2) W p (q - p) [] = some [vE W n vars e c0 c1] := by
  obtain ⟨e1, e2⟩ := qP_B hq
  obtain ⟨-, hr⟩ := pE_run hok 12 p q dd hq.2
  obtain ⟨x, hx, hr⟩ := hr []
  have : vE W n vars e c0 c1 = x := by
    unfold vE
    rw [e1, e2, hr]
    rfl
  rw [this]
  exact ⟨hx, hr⟩
/-- what a word means to process p of n, in cycle cy, with its values, hearing the set s of messages m -/
def c0P (p n cy : Nat) (val m : Nat → Int32) (s w : Int32) : Int32 :=
  if w = 31 then nI p else if w = 32 then nI n else if w = 33 then nI (min cy 15) else if w = 34 then nI (cy % n)
  else if w = 35 then nI (fHd s n) else if w = 36 then fZ (fMin m s n) else if w = 37 then fZ (fMax m s n) else if w = 38 then fZ (fMost m s n n) else if w = 39 then (if fMost m s n n = -1 then 0 else nI (fTm m s (fMost m s n n) n))
  else if w < 100 then w else val (5 * p + (w - 100).toNatClampNeg)
def c1P (n : Nat) (m : Nat → Int32) (s w a : Int32) : Int32 :=
  if w = 40 then nI (fTm m s a n) else if w = 41 then (if a.toNatClampNeg < n ∧ fB s a.toNatClampNeg = 1 then m a.toNatClampNeg else 0) else (if a = 0 then 1 else 0)
theorem fMin_good {m : Nat → Int32} {s : Int32} : ∀ n, (∀ p, p < n → fGood (m p)) → fMin m s n = -1 ∨ fGood (fMin m s n)
  | 0, _ => Or.inl rfl
  | n + 1, h => by
    simp only [fMin]
    split
    · exact Or.inr (h n (by omega))
    · exact fMin_good n (fun p hp => h p (by omega))
theorem fMax_good {m : Nat → Int32} {s : Int32} : ∀ n, (∀ p, p < n → fGood (m p)) → fMax m s n = -1 ∨ fGood (fMax m s n)
  | 0, _ => Or.inl rfl
  | n + 1, h => by
    simp only [fMax]
    split
    · exact Or.inr (h n (by omega))
    · exact fMax_good n (fun p hp => h p (by omega))
theorem fMost_good {m : Nat → Int32} {s : Int32} {N : Nat} : ∀ n, (∀ p, p < n → fGood (m p)) → fMost m s N n = -1 ∨ fGood (fMost m s N n)
  | 0, _ => Or.inl rfl
  | n + 1, h => by
    simp only [fMost]
    split
    · exact Or.inr (h n (by omega))
    · exact fMost_good n (fun p hp => h p (by omega))
theorem fZ_good {x : Int32} (h : x = -1 ∨ fGood x) : fGood (fZ x) := by
  unfold fZ
  split
  · exact nI_good (k := 0) (by decide)
  · rename_i q; exact h.resolve_left q
theorem cP_ok {p n cy vars : Nat} {val m : Nat → Int32} {s : Int32} {hears : Bool} (hp : p < n) (hn : n ≤ 7) (hv : vars ≤ 5) (hval : ∀ v, v < vars → fGood (val (5 * p + v))) (hm : ∀ i, i < n → fGood (m i)) : fOk vars hears (c0P p n cy val m s) (c1P n m s) f2 := by
  refine ⟨fun w hc h0 => ?_, fun w a hc h1 ha => ?_, fun w a b _ _ ha hb => f2_good ha hb⟩
  · have hcy : cy % n < n := Nat.mod_lt _ (by omega)
    have hh := fHd_le s n
    have ht := fTm_le m s (fMost m s n n) n
    rcases fCan_0 hc h0 hv with ⟨k, k1, rfl⟩ | ⟨k, k1, k2, rfl, -⟩ | ⟨k, k1, rfl⟩
    · have : c0P p n cy val m s (nI k) = nI k := by
        have e : ∀ j, 31 ≤ j → j ≤ 39 → ¬ nI k = nI j := fun j j1 j2 z => by have := (nI_eq (by omega) (by omega)).mp z; omega
        unfold c0P
        rw [if_neg (show ¬ nI k = 31 from e 31 (by decide) (by decide)), if_neg (show ¬ nI k = 32 from e 32 (by decide) (by decide)), if_neg (show ¬ nI k = 33 from e 33 (by decide) (by decide)), if_neg (show ¬ nI k = 34 from e 34 (by decide) (by decide)), if_neg (show ¬ nI k = 35 from e 35 (by decide) (by decide)), if_neg (show ¬ nI k = 36 from e 36 (by decide) (by decide)), if_neg (show ¬ nI k = 37 from e 37 (by decide) (by decide)), if_neg (show ¬ nI k = 38 from e 38 (by decide) (by decide)), if_neg (show ¬ nI k = 39 from e 39 (by decide) (by decide)), if_pos (show nI k < 100 from nI_lt (a := k) (b := 100) (by omega) (by decide))]
      rw [this]
      exact nI_good (by omega)
    · have hk : k = 31 ∨ k = 32 ∨ k = 33 ∨ k = 34 ∨ k = 35 ∨ k = 36 ∨ k = 37 ∨ k = 38 ∨ k = 39 := by omega
      rcases hk with rfl | rfl | rfl | rfl | rfl | rfl | rfl | rfl | rfl
      · exact nI_good (by omega)
      · exact nI_good (by omega)
      · exact nI_good (by omega)
      · exact nI_good (by omega)
      · exact nI_good (by omega)
      · exact fZ_good (fMin_good n hm)
      · exact fZ_good (fMax_good n hm)
      · exact fZ_good (fMost_good n hm)
      · show fGood (if fMost m s n n = -1 then 0 else nI (fTm m s (fMost m s n n) n))
        split
        · exact nI_good (k := 0) (by decide)
        · exact nI_good (by omega)
    · have : c0P p n cy val m s (nI (100 + k)) = val (5 * p + k) := by
        have e : ∀ j, 31 ≤ j → j ≤ 39 → ¬ nI (100 + k) = nI j := fun j j1 j2 z => by have := (nI_eq (by omega) (by omega)).mp z; omega
        have e2 : (nI (100 + k) - 100).toNatClampNeg = k := by
          rw [show (100 : Int32) = nI 100 from rfl, pk_sub (by omega), nI_clamp (by omega)]
          omega
        unfold c0P
        rw [if_neg (show ¬ nI (100 + k) = 31 from e 31 (by decide) (by decide)), if_neg (show ¬ nI (100 + k) = 32 from e 32 (by decide) (by decide)), if_neg (show ¬ nI (100 + k) = 33 from e 33 (by decide) (by decide)), if_neg (show ¬ nI (100 + k) = 34 from e 34 (by decide) (by decide)), if_neg (show ¬ nI (100 + k) = 35 from e 35 (by decide) (by decide)), if_neg (show ¬ nI (100 + k) = 36 from e 36 (by decide) (by decide)), if_neg (show ¬ nI (100 + k) = 37 from e 37 (by decide) (by decide)), if_neg (show ¬ nI (100 + k) = 38 from e 38 (by decide) (by decide)), if_neg (show ¬ nI (100 + k) = 39 from e 39 (by decide) (by decide)), if_neg (show ¬ nI (100 + k) < 100 from nI_nlt (a := 100 + k) (b := 100) (by omega) (by omega)), e2]
      rw [this]
      exact hval k k1
  · unfold c1P
    split
    · have := fTm_le m s a n
      exact nI_good (by omega)
    · split
      · split
        · rename_i q; exact hm _ q.1
        · exact nI_good (k := 0) (by decide)
      · split
        · exact nI_good (k := 1) (by decide)
        · exact nI_good (k := 0) (by decide)
