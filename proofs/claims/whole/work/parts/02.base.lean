/-! Values, heap and methods of the pure side. A value: an int, a long, or a reference by its POSITION. The heap: ints and longs by position and slot. Shapes of the cells by position: an array (long or not, its length), or an object (number of its class; each field an int, a boolean, or a reference to a fixed position). -/
abbrev zV : Type := Int32 ⊕ (Int64 ⊕ Nat)
abbrev zH : Type := (Nat → Nat → Int32) × (Nat → Nat → Int64)
abbrev zM : Type := MethodName × ByteArray × Nat × Option FieldType
abbrev zSh : Type := (Bool × Nat) ⊕ (Nat × List (Bool ⊕ Nat))
def ztv (ad : Nat → Nat) : zV → Value
  | .inl x => .int x
  | .inr (.inl x) => .long x
  | .inr (.inr q) => .ref (ad q)
def zput (h : zH) (q k : Nat) (v : Int32) : zH := (fun p => if p = q then upd (h.1 p) k v else h.1 p, h.2)
def zputL (h : zH) (q k : Nat) (v : Int64) : zH := (h.1, fun p => if p = q then vp_updL (h.2 p) k v else h.2 p)
def zcpy (h : zH) (q0 q1 sp dp n : Nat) : zH := (fun p => if p = q1 then va_cpy (h.1 q0) (h.1 p) sp dp n else h.1 p, h.2)
def zFs (ad : Nat → Nat) (h : zH) (q : Nat) : Nat → List (Bool ⊕ Nat) → List Value
  | _, [] => []
  | k, .inl _ :: t => .int (h.1 q k) :: zFs ad h q (k + 1) t
  | k, .inr p :: t => .ref (ad p) :: zFs ad h q (k + 1) t
theorem zFs_get {ad : Nat → Nat} {h : zH} {q : Nat} {b : Bool} : ∀ {ks : List (Bool ⊕ Nat)} {j k : Nat}, ks[k]? = some (.inl b) → (zFs ad h q j ks)[k]? = some (.int (h.1 q (j + k))) := by
  intro ks
  induction ks with
  | nil => intro j k hk; simp at hk
  | cons a t ih =>
    intro j k hk
    cases k with
    | zero =>
      rw [List.getElem?_cons_zero] at hk
      cases hk
      rfl
    | succ k =>
      rw [List.getElem?_cons_succ] at hk
      have e := ih (j := j + 1) hk
      rw [show j + 1 + k = j + (k + 1) by omega] at e
      cases a with
      | inl c => exact e
      | inr p => exact e
theorem zFs_getr {ad : Nat → Nat} {h : zH} {q p0 : Nat} : ∀ {ks : List (Bool ⊕ Nat)} {j k : Nat}, ks[k]? = some (.inr p0) → (zFs ad h q j ks)[k]? = some (.ref (ad p0)) := by
  intro ks
  induction ks with
  | nil => intro j k hk; simp at hk
  | cons a t ih =>
    intro j k hk
    cases k with
    | zero =>
      rw [List.getElem?_cons_zero] at hk
      cases hk
      rfl
    | succ k =>
      rw [List.getElem?_cons_succ] at hk
      have e := ih (j := j + 1) hk
      cases a with
      | inl c => exact e
      | inr p => exact e
theorem zFs_congr {ad : Nat → Nat} {h h' : zH} {q : Nat} : ∀ {ks : List (Bool ⊕ Nat)} {j : Nat}, (∀ k, j ≤ k → h'.1 q k = h.1 q k) → zFs ad h' q j ks = zFs ad h q j ks := by
  intro ks
  induction ks with
  | nil => intro j hh; rfl
  | cons a t ih =>
    intro j hh
    have e := ih (j := j + 1) (fun k hk => hh k (by omega))
    cases a with
    | inl c => simp only [zFs]; rw [hh j (Nat.le_refl _), e]
    | inr p => simp only [zFs]; rw [e]
theorem zFs_len {ad : Nat → Nat} {h : zH} {q : Nat} : ∀ {ks : List (Bool ⊕ Nat)} {j : Nat}, (zFs ad h q j ks).length = ks.length := by
  intro ks
  induction ks with
  | nil => intro j; rfl
  | cons a t ih =>
    intro j
    cases a with
    | inl c => simp only [zFs, List.length_cons]; rw [ih]
    | inr p => simp only [zFs, List.length_cons]; rw [ih]
theorem zput_at {h : zH} {q k : Nat} {v : Int32} : (zput h q k v).1 q = upd (h.1 q) k v := by simp [zput]
theorem zput_ne {h : zH} {q p k : Nat} {v : Int32} (hp : p ≠ q) : (zput h q k v).1 p = h.1 p := by simp [zput, hp]
theorem zput_2 {h : zH} {q k : Nat} {v : Int32} : (zput h q k v).2 = h.2 := rfl
theorem zputL_at {h : zH} {q k : Nat} {v : Int64} : (zputL h q k v).2 q = vp_updL (h.2 q) k v := by simp [zputL]
theorem zputL_ne {h : zH} {q p k : Nat} {v : Int64} (hp : p ≠ q) : (zputL h q k v).2 p = h.2 p := by simp [zputL, hp]
theorem zputL_1 {h : zH} {q k : Nat} {v : Int64} : (zputL h q k v).1 = h.1 := rfl
theorem zFs_set {ad : Nat → Nat} {h : zH} {q : Nat} {b : Bool} {v : Int32} : ∀ {ks : List (Bool ⊕ Nat)} {j k : Nat}, ks[k]? = some (.inl b) → (zFs ad h q j ks).set k (.int v) = zFs ad (zput h q (j + k) v) q j ks := by
  intro ks
  induction ks with
  | nil => intro j k hk; simp at hk
  | cons a t ih =>
    intro j k hk
    cases k with
    | zero =>
      rw [List.getElem?_cons_zero] at hk
      cases hk
      have e2 : zFs ad (zput h q (j + 0) v) q (j + 1) t = zFs ad h q (j + 1) t := zFs_congr (fun k hk => by
        rw [zput_at]
        simp only [upd]
        rw [if_neg (by omega)])
      have e1 : (zput h q (j + 0) v).1 q j = v := by
        rw [zput_at]
        simp [upd]
      simp only [zFs, List.set_cons_zero]
      rw [e1, e2]
    | succ k =>
      rw [List.getElem?_cons_succ] at hk
      have e := ih (j := j + 1) hk
      rw [show j + 1 + k = j + (k + 1) by omega] at e
      have e1 : (zput h q (j + (k + 1)) v).1 q j = h.1 q j := by
        rw [zput_at]
        simp only [upd]
        rw [if_neg (by omega)]
      cases a with
      | inl c =>
        simp only [zFs, List.set_cons_succ]
        rw [e, e1]
      | inr p =>
        simp only [zFs, List.set_cons_succ]
        rw [e]
def zCell (ad : Nat → Nat) (cI cL : ClassId) (h : zH) (q : Nat) : zSh → va_E
  | .inl (false, n) => .inl (cI, n, .inl (h.1 q))
  | .inl (true, n) => .inl (cL, n, .inr (.inl (h.2 q)))
  | .inr (ci, ks) => .inr (ci, zFs ad h q 0 ks)
theorem zCell_congr {ad : Nat → Nat} {cI cL : ClassId} {h h' : zH} {q : Nat} {s : zSh} (e1 : h'.1 q = h.1 q) (e2 : h'.2 q = h.2 q) : zCell ad cI cL h' q s = zCell ad cI cL h q s := by
  rcases s with ⟨b, n⟩ | ⟨ci, ks⟩
  · cases b
    · simp only [zCell]; rw [e1]
    · simp only [zCell]; rw [e2]
  · simp only [zCell]
    rw [zFs_congr (h := h) (h' := h') (fun k _ => by rw [e1])]
/-- the shapes: the class's own cells 0 .. 26, the reference's 27 .. 46, the law's row of answers 47 -/
def zS : List zSh := [
  .inr (0, [.inr 1, .inr 5, .inr 6, .inr 14]),
  .inr (1, [.inr 2, .inr 3, .inr 4, .inl false, .inl true, .inl false, .inl false, .inl false, .inl false]),
  .inl (false, 400), .inl (false, 25), .inl (false, 24), .inl (false, 7),
  .inr (2, [.inr 9, .inr 7, .inl false, .inr 1, .inr 8]),
  .inl (false, 7), .inl (false, 35),
  .inr (3, [.inr 10, .inr 12, .inl false, .inr 1, .inr 13, .inl false, .inl false, .inl false]),
  .inr (4, [.inr 11, .inl false, .inl false, .inl false, .inl false, .inl false, .inl false]),
  .inl (false, 7), .inl (false, 35), .inl (false, 400),
  .inr (5, [.inl false, .inl false, .inl false, .inr 15, .inr 1, .inr 16, .inr 21, .inr 22, .inr 23, .inr 24, .inr 25, .inr 26, .inl false, .inl false, .inl true, .inl false]),
  .inl (false, 18),
  .inr (3, [.inr 17, .inr 19, .inl false, .inr 1, .inr 20, .inl false, .inl false, .inl false]),
  .inr (4, [.inr 18, .inl false, .inl false, .inl false, .inl false, .inl false, .inl false]),
  .inl (false, 7), .inl (false, 35), .inl (false, 400),
  .inl (true, 200), .inl (false, 200), .inl (false, 200), .inl (false, 512), .inl (false, 512), .inl (true, 24),
  .inr (6, [.inl false, .inl false, .inr 28, .inl true, .inr 29, .inr 30, .inr 31, .inl false, .inl false, .inr 32, .inl false, .inl false, .inr 33, .inr 34, .inr 35, .inr 36, .inl false, .inl false, .inl false, .inr 37, .inr 38, .inl false, .inr 39, .inr 40, .inr 41, .inr 42, .inl false, .inl false, .inr 43, .inr 44, .inr 45, .inr 46]),
  .inl (false, 400), .inl (false, 24), .inl (false, 24), .inl (false, 24), .inl (false, 7), .inl (false, 7), .inl (false, 35), .inl (false, 35), .inl (false, 7), .inl (false, 400), .inl (false, 16),
  .inl (true, 200), .inl (false, 200), .inl (false, 200), .inl (false, 200), .inl (false, 24), .inl (false, 35), .inl (false, 7), .inl (false, 7),
  .inl (true, 1)]
theorem zS_len : zS.length = 48 := rfl
def zW (ad : Nat → Nat) (cI cL : ClassId) (h : zH) : va_W := zS.zipIdx.map (fun x => (ad x.2, zCell ad cI cL h x.2 x.1))
theorem zW_get {ad : Nat → Nat} {cI cL : ClassId} {h : zH} {q : Nat} {s : zSh} (hs : zS[q]? = some s) : (zW ad cI cL h)[q]? = some (ad q, zCell ad cI cL h q s) := by
  rw [zW, List.getElem?_map, List.getElem?_zipIdx, hs]
  simp
theorem zW_none {ad : Nat → Nat} {cI cL : ClassId} {h : zH} {q : Nat} (hs : zS[q]? = none) : (zW ad cI cL h)[q]? = none := by
  rw [zW, List.getElem?_map, List.getElem?_zipIdx, hs]
  rfl
theorem zW_inv {ad : Nat → Nat} {cI cL : ClassId} {h : zH} {k : Nat} {p : Nat × va_E} (hk : (zW ad cI cL h)[k]? = some p) : p.1 = ad k ∧ k < 48 := by
  cases e : zS[k]? with
  | none => rw [zW_none e] at hk; cases hk
  | some s =>
    rw [zW_get e] at hk
    cases hk
    exact ⟨rfl, (List.getElem?_eq_some_iff.mp e).1⟩
theorem zW_set {ad : Nat → Nat} {cI cL : ClassId} {h h' : zH} {q : Nat} {s : zSh} (hs : zS[q]? = some s) (ho : ∀ p, p ≠ q → h'.1 p = h.1 p ∧ h'.2 p = h.2 p) : (zW ad cI cL h).set q (ad q, zCell ad cI cL h' q s) = zW ad cI cL h' := by
  apply List.ext_getElem?
  intro j
  by_cases hj : j = q
  · subst hj
    rw [zW_get hs, List.getElem?_set_self (List.getElem?_eq_some_iff.mp (zW_get (ad := ad) (cI := cI) (cL := cL) (h := h) hs)).1]
  · rw [List.getElem?_set_ne (Ne.symm hj)]
    cases e : zS[j]? with
    | none => rw [zW_none e, zW_none e]
    | some s => rw [zW_get e, zW_get e, zCell_congr (ho j hj).1 (ho j hj).2]
/-- what may change: the cells of the world, and what is new -/
def zA (ad : Nat → Nat) (sz : Nat) : Nat → Prop := fun q => (∃ k, k < 48 ∧ q = ad k) ∨ sz ≤ q
def zInj (ad : Nat → Nat) : Prop := ∀ i j, i < 48 → j < 48 → ad i = ad j → i = j
theorem zD {ad : Nat → Nat} {cI cL : ClassId} {h : zH} {sz : Nat} (hi : zInj ad) : va_D (zA ad sz) (zW ad cI cL h) :=
  ⟨fun i j p q hp hq e => hi i j (zW_inv hp).2 (zW_inv hq).2 (by rw [← (zW_inv hp).1, ← (zW_inv hq).1]; exact e), fun k q hk => Or.inl ⟨k, (zW_inv hk).2, (zW_inv hk).1⟩⟩
theorem zA_mono {ad : Nat → Nat} {a b : Nat} (h : a ≤ b) : ∀ q, zA ad b q → zA ad a q := fun q hq => by
  rcases hq with h1 | h1
  · exact Or.inl h1
  · exact Or.inr (Nat.le_trans h h1)
/-! the locals -/
def zlok (ad : Nat → Nat) (ls : Array Slot) (L : List (Option zV)) : Prop := ls.size = L.length ∧ lv_wf ls ∧ ∀ (i : Nat) (v : zV), L[i]? = some (some v) → ls[i]? = some (.val (ztv ad v))
def zprs (ad : Nat → Nat) (L : List (Option zV)) : List (Nat × Value) := (List.range L.length).filterMap (fun i => match L[i]? with
  | some (some v) => some (i, ztv ad v)
  | _ => none)
theorem zprs_mem {ad : Nat → Nat} {L : List (Option zV)} {i : Nat} {v : zV} (h : L[i]? = some (some v)) : (i, ztv ad v) ∈ zprs ad L := by
  refine List.mem_filterMap.mpr ⟨i, List.mem_range.mpr (List.getElem?_eq_some_iff.mp h).1, ?_⟩
  rw [h]
theorem zprs_has {ad : Nat → Nat} {ls : Array Slot} {L : List (Option zV)} (hl : zlok ad ls L) : lv_has ls L.length (zprs ad L) := by
  refine ⟨hl.1, hl.2.1, fun q hq => ?_⟩
  obtain ⟨i, -, hi⟩ := List.mem_filterMap.mp hq
  cases e : L[i]? with
  | none => rw [e] at hi; cases hi
  | some o =>
    cases o with
    | none => rw [e] at hi; cases hi
    | some v =>
      rw [e] at hi
      cases hi
      exact hl.2.2 i v e
def zlong : zV → Bool
  | .inr (.inl _) => true
  | _ => false
def zkz (L : List (Option zV)) (j : Nat) : Option (Option zV) → List (Option zV)
  | some (some v) => bif zlong v then L.set j none else L
  | _ => L
def zkill (L : List (Option zV)) : Nat → List (Option zV)
  | 0 => L
  | j + 1 => zkz L j L[j]?
def zst1 (L : List (Option zV)) (i : Nat) (v : zV) : List (Option zV) := (zkill L i).set i (some v)
def zst2 (L : List (Option zV)) (i : Nat) (v : zV) : List (Option zV) := ((zkill L i).set i (some v)).set (i + 1) none
theorem zkill_len {L : List (Option zV)} {i : Nat} : (zkill L i).length = L.length := by
  cases i with
  | zero => rfl
  | succ i =>
    show (zkz L i L[i]?).length = L.length
    cases e : L[i]? with
    | none => rfl
    | some o =>
      cases o with
      | none => rfl
      | some v =>
        show (bif zlong v then L.set i none else L).length = L.length
        cases zlong v with
        | true => exact List.length_set
        | false => rfl
theorem zkill_get {L : List (Option zV)} {i j : Nat} {w : zV} (h : (zkill L i)[j]? = some (some w)) : L[j]? = some (some w) ∧ ¬ (j + 1 = i ∧ zlong w = true) := by
  cases i with
  | zero => exact ⟨h, fun q => Nat.noConfusion q.1⟩
  | succ i =>
    have h0 : (zkz L i L[i]?)[j]? = some (some w) := h
    cases e : L[i]? with
    | none =>
      rw [e] at h0
      have h2 : L[j]? = some (some w) := h0
      refine ⟨h2, fun q => ?_⟩
      have hj : j = i := Nat.succ.inj q.1
      subst hj
      rw [e] at h2
      cases h2
    | some o =>
      rw [e] at h0
      cases o with
      | none =>
        have h2 : L[j]? = some (some w) := h0
        refine ⟨h2, fun q => ?_⟩
        have hj : j = i := Nat.succ.inj q.1
        subst hj
        rw [e] at h2
        cases h2
      | some v =>
        have h1 : (bif zlong v then L.set i none else L)[j]? = some (some w) := h0
        cases hv : zlong v with
        | true =>
          rw [hv] at h1
          have h2 : (L.set i none)[j]? = some (some w) := h1
          by_cases hj : j = i
          · subst hj
            rw [List.getElem?_set_self (List.getElem?_eq_some_iff.mp e).1] at h2
            cases h2
          · rw [List.getElem?_set_ne (Ne.symm hj)] at h2
            exact ⟨h2, fun q => hj (Nat.succ.inj q.1)⟩
        | false =>
          rw [hv] at h1
          have h2 : L[j]? = some (some w) := h1
          refine ⟨h2, fun q => ?_⟩
          have hj : j = i := Nat.succ.inj q.1
          subst hj
          rw [e] at h2
          cases h2
          rw [hv] at q
          exact absurd q.2 (by decide)
theorem zcat2 {ad : Nat → Nat} {w : zV} (h : zlong w = false) : ((ztv ad w).category == 2) = false := by
  rcases w with x | x | x
  · rfl
  · cases h
  · rfl
theorem zst1_ok {ad : Nat → Nat} {ls' : Array Slot} {L : List (Option zV)} {i : Nat} {v : zV} (hl : lv_has ls' L.length ((i, ztv ad v) :: (zprs ad L).filter (fun q => !(q.1 == i) && !(q.1 + 1 == i && q.2.category == 2)))) : zlok ad ls' (zst1 L i v) := by
  refine ⟨by rw [hl.1]; simp [zst1, zkill_len], hl.2.1, fun j w hj => ?_⟩
  unfold zst1 at hj
  by_cases e : j = i
  · subst e
    by_cases hlt : j < (zkill L j).length
    · rw [List.getElem?_set_self hlt] at hj
      cases hj
      exact hl.2.2 (j, ztv ad v) List.mem_cons_self
    · rw [List.getElem?_eq_none (by rw [List.length_set]; omega)] at hj
      cases hj
  · rw [List.getElem?_set_ne (Ne.symm e)] at hj
    obtain ⟨h1, h2⟩ := zkill_get hj
    refine hl.2.2 (j, ztv ad w) (List.mem_cons_of_mem _ (List.mem_filter.mpr ⟨zprs_mem h1, ?_⟩))
    show (!(j == i) && !(j + 1 == i && (ztv ad w).category == 2)) = true
    have c1 : (j == i) = false := by simpa using e
    have c2 : (j + 1 == i && (ztv ad w).category == 2) = false := by
      cases hq : (j + 1 == i) with
      | false => rfl
      | true =>
        have hji : j + 1 = i := by simpa using hq
        have hz : zlong w = false := by
          cases hz : zlong w with
          | false => rfl
          | true => exact absurd ⟨hji, hz⟩ h2
        rw [zcat2 hz]
        rfl
    rw [c1, c2]
    rfl
theorem zst2_ok {ad : Nat → Nat} {ls' : Array Slot} {L : List (Option zV)} {i : Nat} {v : zV} (hl : lv_has ls' L.length ((i, ztv ad v) :: (zprs ad L).filter (fun q => !(q.1 == i) && (!(q.1 == i + 1) && !(q.1 + 1 == i && q.2.category == 2))))) : zlok ad ls' (zst2 L i v) := by
  refine ⟨by rw [hl.1]; simp [zst2, zkill_len], hl.2.1, fun j w hj => ?_⟩
  unfold zst2 at hj
  by_cases e2 : j = i + 1
  · subst e2
    by_cases hlt : i + 1 < ((zkill L i).set i (some v)).length
    · rw [List.getElem?_set_self hlt] at hj
      cases hj
    · rw [List.getElem?_eq_none (by rw [List.length_set]; omega)] at hj
      cases hj
  · rw [List.getElem?_set_ne (Ne.symm e2)] at hj
    by_cases e : j = i
    · subst e
      by_cases hlt : j < (zkill L j).length
      · rw [List.getElem?_set_self hlt] at hj
        cases hj
        exact hl.2.2 (j, ztv ad v) List.mem_cons_self
      · rw [List.getElem?_eq_none (by rw [List.length_set]; omega)] at hj
        cases hj
    · rw [List.getElem?_set_ne (Ne.symm e)] at hj
      obtain ⟨h1, h2⟩ := zkill_get hj
      refine hl.2.2 (j, ztv ad w) (List.mem_cons_of_mem _ (List.mem_filter.mpr ⟨zprs_mem h1, ?_⟩))
      show (!(j == i) && (!(j == i + 1) && !(j + 1 == i && (ztv ad w).category == 2))) = true
      have c1 : (j == i) = false := by simpa using e
      have c3 : (j == i + 1) = false := by simpa using e2
      have c2 : (j + 1 == i && (ztv ad w).category == 2) = false := by
        cases hq : (j + 1 == i) with
        | false => rfl
        | true =>
          have hji : j + 1 = i := by simpa using hq
          have hz : zlong w = false := by
            cases hz : zlong w with
            | false => rfl
            | true => exact absurd ⟨hji, hz⟩ h2
          rw [zcat2 hz]
          rfl
      rw [c1, c2, c3]
      rfl
/-! a method's start -/
def zlay : List zV → List (Option zV)
  | [] => []
  | v :: vs => bif zlong v then some v :: none :: zlay vs else some v :: zlay vs
def zent (args : List zV) (n : Nat) : List (Option zV) := zlay args ++ List.replicate (n - (zlay args).length) none
theorem zlay_mem {ad : Nat → Nat} : ∀ {vs : List zV} {i j : Nat} {w : zV}, (zlay vs)[j]? = some (some w) → (i + j, ztv ad w) ∈ lv_args i (vs.map (ztv ad)) := by
  intro vs
  induction vs with
  | nil => intro i j w h; simp [zlay] at h
  | cons v vs ih =>
    intro i j w h
    show (i + j, ztv ad w) ∈ (i, ztv ad v) :: lv_args (if (ztv ad v).category = 2 then i + 2 else i + 1) (vs.map (ztv ad))
    cases hv : zlong v with
    | true =>
      have hz : zlay (v :: vs) = some v :: none :: zlay vs := by simp [zlay, hv]
      have hc : (ztv ad v).category = 2 := by
        rcases v with x | x | x
        · cases hv
        · rfl
        · cases hv
      rw [hz] at h
      rw [if_pos hc]
      cases j with
      | zero =>
        rw [List.getElem?_cons_zero] at h
        cases h
        exact List.mem_cons_self
      | succ j =>
        rw [List.getElem?_cons_succ] at h
        cases j with
        | zero =>
          rw [List.getElem?_cons_zero] at h
          cases h
        | succ j =>
          rw [List.getElem?_cons_succ] at h
          have e := ih (i := i + 2) h
          rw [show i + 2 + j = i + (j + 1 + 1) by omega] at e
          exact List.mem_cons_of_mem _ e
    | false =>
      have hz : zlay (v :: vs) = some v :: zlay vs := by simp [zlay, hv]
      have hc : ¬ (ztv ad v).category = 2 := by
        have := zcat2 (ad := ad) hv
        simpa using this
      rw [hz] at h
      rw [if_neg hc]
      cases j with
      | zero =>
        rw [List.getElem?_cons_zero] at h
        cases h
        exact List.mem_cons_self
      | succ j =>
        rw [List.getElem?_cons_succ] at h
        have e := ih (i := i + 1) h
        rw [show i + 1 + j = i + (j + 1) by omega] at e
        exact List.mem_cons_of_mem _ e
theorem zsl_len {ad : Nat → Nat} : ∀ {vs : List zV}, (lg_sl (vs.map (ztv ad))).length = (zlay vs).length := by
  intro vs
  induction vs with
  | nil => rfl
  | cons v vs ih =>
    have e : lg_sl ((v :: vs).map (ztv ad)) = (if (ztv ad v).category = 2 then [.val (ztv ad v), .second] else [.val (ztv ad v)]) ++ lg_sl (vs.map (ztv ad)) := by simp [lg_sl]
    rw [e, List.length_append, ih]
    rcases v with x | x | x
    · simp [zlay, zlong, ztv, Value.category]; omega
    · simp [zlay, zlong, ztv, Value.category]; omega
    · simp [zlay, zlong, ztv, Value.category]; omega
theorem zent_ok {ad : Nat → Nat} {args : List zV} {n : Nat} (hn : (zlay args).length ≤ n) : zlok ad ((lg_sl (args.map (ztv ad)) ++ List.replicate (n - (lg_sl (args.map (ztv ad))).length) Slot.unset).toArray) (zent args n) := by
  obtain ⟨h1, h2, h3⟩ := lv_entry (args.map (ztv ad)) (n := n) (by rw [zsl_len]; exact hn)
  refine ⟨h1.trans ?_, h2, fun j w hj => ?_⟩
  · simp [zent]; omega
  · unfold zent at hj
    by_cases hl : j < (zlay args).length
    · rw [List.getElem?_append_left hl] at hj
      have e := zlay_mem (ad := ad) (i := 0) hj
      rw [Nat.zero_add] at e
      exact h3 (j, ztv ad w) e
    · rw [List.getElem?_append_right (by omega)] at hj
      have hm := List.mem_of_getElem? hj
      rw [List.mem_replicate] at hm
      exact absurd hm.2 (by simp)
/-- the weight of a stack -/
def zwt : List zV → Nat
  | [] => 0
  | v :: vs => (bif zlong v then 2 else 1) + zwt vs
theorem zwt_eq {ad : Nat → Nat} : ∀ {st : List zV}, ((st.map (ztv ad)).map fun v => v.category).sum = zwt st := by
  intro st
  induction st with
  | nil => rfl
  | cons v vs ih =>
    simp only [List.map_cons, List.sum_cons, zwt]
    rw [ih]
    rcases v with x | x | x <;> rfl
