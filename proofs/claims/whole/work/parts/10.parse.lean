/-! THE PICTURE: words, expressions, and how they are read and worked out (no machine here) -/
def fCan (w : Int32) (vars : Nat) (hears : Bool) : Bool :=
  (decide (0 ≤ w.toInt ∧ w.toInt ≤ 15) || decide (100 ≤ w.toInt ∧ w.toInt < 100 + (vars : Int))) || (decide (20 ≤ w.toInt ∧ w.toInt ≤ 34) || (hears && decide (35 ≤ w.toInt ∧ w.toInt ≤ 41)))
def fParts (w : Int32) : Nat := if 20 ≤ w.toInt ∧ w.toInt ≤ 28 then 2 else if w.toInt = 30 then 3 else if w.toInt = 29 ∨ w.toInt = 40 ∨ w.toInt = 41 then 1 else 0
/-- so many expressions one behind another; f reads one -/
def pK (f : Nat → Nat ⊕ (Nat × Nat)) : Nat → Nat → Nat → Nat ⊕ (Nat × Nat)
  | 0, p, dp => .inr (p, dp)
  | k + 1, p, dp => match f p with
    | .inl e => .inl e
    | .inr (q, dq) => pK f k q (max dp dq)
/-- an expression at a place, 'd' levels being left: the first error, or the place behind it and how deep it is (counted from the outermost, of 12 levels) -/
def pE (W : Nat → Int32) (n vars : Nat) (hears : Bool) : Nat → Nat → Nat ⊕ (Nat × Nat)
  | 0, p => .inl p
  | d + 1, p => bif decide (p < n) && fCan (W p) vars hears then pK (pE W n vars hears d) (fParts (W p)) (p + 1) (12 - d) else .inl p
theorem fParts_le (w : Int32) : fParts w ≤ 3 := by
  unfold fParts
  repeat' split
  all_goals omega
/-- one word, from the last to the first, over a stack -/
def fStep (c0 : Int32 → Int32) (c1 : Int32 → Int32 → Int32) (c2 : Int32 → Int32 → Int32 → Int32) (w : Int32) (s : List Int32) : Option (List Int32) :=
  match fParts w, s with
  | 0, s => some (c0 w :: s)
  | 1, a :: s => some (c1 w a :: s)
  | 2, a :: b :: s => some (c2 w a b :: s)
  | 3, a :: b :: c :: s => some ((if a = 0 then c else b) :: s)
  | _, _ => none
def fRun (g : Int32 → List Int32 → Option (List Int32)) (W : Nat → Int32) (a : Nat) : Nat → List Int32 → Option (List Int32)
  | 0, s => some s
  | k + 1, s => (g (W (a + k)) s).bind (fRun g W a k)
theorem fRun_add {g : Int32 → List Int32 → Option (List Int32)} {W : Nat → Int32} {a i : Nat} : ∀ {j : Nat} {s : List Int32}, fRun g W a (i + j) s = (fRun g W (a + i) j s).bind (fRun g W a i) := by
  intro j
  induction j with
  | zero => intro s; simp [fRun]
  | succ j ih =>
    intro s
    rw [← Nat.add_assoc]
    simp only [fRun]
    rw [show a + (i + j) = a + i + j by omega]
    cases g (W (a + i + j)) s with
    | none => rfl
    | some s' => simp only [Option.bind_some]; exact ih
def fGood (v : Int32) : Prop := 0 ≤ v.toInt ∧ v.toInt ≤ 99
/-- what the three functions must keep -/
def fOk (vars : Nat) (hears : Bool) (c0 : Int32 → Int32) (c1 : Int32 → Int32 → Int32) (c2 : Int32 → Int32 → Int32 → Int32) : Prop :=
  (∀ w, fCan w vars hears = true → fParts w = 0 → fGood (c0 w)) ∧ (∀ w a, fCan w vars hears = true → fParts w = 1 → fGood a → fGood (c1 w a)) ∧ (∀ w a b, fCan w vars hears = true → fParts w = 2 → fGood a → fGood b → fGood (c2 w a b))
theorem pK_run {W : Nat → Int32} {g : Int32 → List Int32 → Option (List Int32)} {f : Nat → Nat ⊕ (Nat × Nat)}
    (hf : ∀ p q dq, f p = .inr (q, dq) → p < q ∧ ∀ s, ∃ v, fGood v ∧ fRun g W p (q - p) s = some (v :: s)) :
    ∀ k p dp q dq, pK f k p dp = .inr (q, dq) → p + k ≤ q ∧ ∀ s, ∃ vs : List Int32, vs.length = k ∧ (∀ v ∈ vs, fGood v) ∧ fRun g W p (q - p) s = some (vs ++ s) := by
  intro k
  induction k with
  | zero =>
    intro p dp q dq h
    simp only [pK] at h
    cases h
    exact ⟨by omega, fun s => ⟨[], rfl, (fun v hv => nomatch hv), by simp [fRun]⟩⟩
  | succ k ih =>
    intro p dp q dq h
    simp only [pK] at h
    cases e : f p with
    | inl x => rw [e] at h; cases h
    | inr y =>
      obtain ⟨q1, d1⟩ := y
      rw [e] at h
      obtain ⟨h1, h2⟩ := hf p q1 d1 e
      obtain ⟨h3, h4⟩ := ih q1 (max dp d1) q dq h
      refine ⟨by omega, fun s => ?_⟩
      obtain ⟨vs, l1, l2, l3⟩ := h4 s
      obtain ⟨v, v1, v2⟩ := h2 (vs ++ s)
      refine ⟨v :: vs, by simp [l1], fun x hx => ?_, ?_⟩
      · rcases List.mem_cons.mp hx with rfl | hx
        · exact v1
        · exact l2 x hx
      · have e1 : q - p = (q1 - p) + (q - q1) := by omega
        rw [e1, fRun_add, show p + (q1 - p) = q1 by omega, l3]
        simpa using v2
theorem pE_run {W : Nat → Int32} {n vars : Nat} {hears : Bool} {c0 : Int32 → Int32} {c1 : Int32 → Int32 → Int32} {c2 : Int32 → Int32 → Int32 → Int32} (hk : fOk vars hears c0 c1 c2) :
    ∀ d p q dq, pE W n vars hears d p = .inr (q, dq) → p < q ∧ ∀ s, ∃ v, fGood v ∧ fRun (fStep c0 c1 c2) W p (q - p) s = some (v :: s) := by
  intro d
  induction d with
  | zero => intro p q dq h; simp [pE] at h
  | succ d ih =>
    intro p q dq h
    simp only [pE] at h
    cases hc : (decide (p < n) && fCan (W p) vars hears) with
    | false => rw [hc] at h; cases h
    | true =>
      rw [hc] at h
      have h' : pK (pE W n vars hears d) (fParts (W p)) (p + 1) (12 - d) = .inr (q, dq) := h
      have hcan : fCan (W p) vars hears = true := by
        simp only [Bool.and_eq_true] at hc
        exact hc.2
      obtain ⟨h1, h2⟩ := pK_run (g := fStep c0 c1 c2) ih _ _ _ _ _ h'
      refine ⟨by omega, fun s => ?_⟩
      obtain ⟨vs, l1, l2, l3⟩ := h2 s
      have e1 : q - p = 1 + (q - (p + 1)) := by omega
      rw [e1, fRun_add, l3]
      simp only [Option.bind_some, fRun, Nat.add_zero]
      have key : ∃ v, fGood v ∧ fStep c0 c1 c2 (W p) (vs ++ s) = some (v :: s) := by
        have hp := fParts_le (W p)
        unfold fStep
        generalize hm : fParts (W p) = m at *
        match m, vs, l1 with
        | 0, [], _ => exact ⟨_, hk.1 _ hcan hm, rfl⟩
        | 1, [a], _ => exact ⟨_, hk.2.1 _ a hcan hm (l2 a (by simp)), rfl⟩
        | 2, [a, b], _ => exact ⟨_, hk.2.2 _ a b hcan hm (l2 a (by simp)) (l2 b (by simp)), rfl⟩
        | 3, [a, b, c], _ =>
          refine ⟨if a = 0 then c else b, ?_, rfl⟩
          split
          · exact l2 c (by simp)
          · exact l2 b (by simp)
        | m + 4, _, _ => omega
      obtain ⟨v, v1, v2⟩ := key
      exact ⟨v, v1, by rw [v2]; rfl⟩
theorem pK_words {W : Nat → Int32} {n vars : Nat} {hears : Bool} {f : Nat → Nat ⊕ (Nat × Nat)} (hf : ∀ p q dq, f p = .inr (q, dq) → p ≤ q ∧ q ≤ max p n ∧ ∀ i, p ≤ i → i < q → fCan (W i) vars hears = true) :
    ∀ k p dp q dq, pK f k p dp = .inr (q, dq) → p ≤ q ∧ q ≤ max p n ∧ ∀ i, p ≤ i → i < q → fCan (W i) vars hears = true := by
  intro k
  induction k with
  | zero =>
    intro p dp q dq h
    simp only [pK] at h
    cases h
    exact ⟨Nat.le_refl _, by omega, fun i h1 h2 => by omega⟩
  | succ k ih =>
    intro p dp q dq h
    simp only [pK] at h
    cases e : f p with
    | inl x => rw [e] at h; cases h
    | inr y =>
      obtain ⟨q1, d1⟩ := y
      rw [e] at h
      obtain ⟨h1, h2, h3⟩ := hf p q1 d1 e
      obtain ⟨h4, h5, h6⟩ := ih q1 (max dp d1) q dq h
      refine ⟨by omega, by omega, fun i i1 i2 => ?_⟩
      by_cases hi : i < q1
      · exact h3 i i1 hi
      · exact h6 i (by omega) i2
/-- every word of an expression may stand there, and all are among the n -/
theorem pE_words {W : Nat → Int32} {n vars : Nat} {hears : Bool} : ∀ d p q dq, pE W n vars hears d p = .inr (q, dq) → p ≤ q ∧ q ≤ max p n ∧ ∀ i, p ≤ i → i < q → fCan (W i) vars hears = true := by
  intro d
  induction d with
  | zero => intro p q dq h; simp [pE] at h
  | succ d ih =>
    intro p q dq h
    simp only [pE] at h
    cases hc : (decide (p < n) && fCan (W p) vars hears) with
    | false => rw [hc] at h; cases h
    | true =>
      rw [hc] at h
      have h' : pK (pE W n vars hears d) (fParts (W p)) (p + 1) (12 - d) = .inr (q, dq) := h
      simp only [Bool.and_eq_true, decide_eq_true_eq] at hc
      obtain ⟨h1, h2, h3⟩ := pK_words ih _ _ _ _ _ h'
      refine ⟨by omega, by omega, fun i i1 i2 => ?_⟩
      by_cases hi : i = p
      · rw [hi]; exact hc.2
      · exact h3 i (by omega) i2
