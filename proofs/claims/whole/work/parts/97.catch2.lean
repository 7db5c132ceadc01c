/-! a throw that is caught: the law's methods name the class's exceptions, one or two -/
theorem zlC0 : Cond.classLink "RoundLabLaw" 13 (zex 0) ∈ ztb := by decide +kernel
theorem zlC1 : Cond.classLink "RoundLabLaw" 18 (zex 1) ∈ ztb := by decide +kernel
theorem zlC2 : Cond.classLink "RoundLabLaw" 27 (zex 2) ∈ ztb := by decide +kernel
theorem zlK0 : Cond.castable (zex 0) (zex 0) ∈ lw_tbl := by decide +kernel
theorem zlK1 : Cond.castable (zex 1) (zex 1) ∈ lw_tbl := by decide +kernel
theorem zlK2 : Cond.castable (zex 2) (zex 2) ∈ lw_tbl := by decide +kernel
def zct : Nat → Nat
  | 0 => 13
  | 1 => 18
  | _ => 27
def zfind (X pc : Nat) : List (Nat × Nat × Nat × Nat) → Option Nat
  | [] => none
  | q :: r => if q.1 ≤ pc ∧ pc < q.2.1 then (if q.2.2.2 = zct X then some q.2.2.1 else if q.2.2.2 = 13 ∨ q.2.2.2 = 18 ∨ q.2.2.2 = 27 then zfind X pc r else none) else zfind X pc r
section ZH
variable {e : Env} {f : JFrame} {a : Addr} {s S : State} {cell : Cell}
theorem zgo1 {x : ExceptionTableEntry} {t : List ExceptionTableEntry} {c : ClassId} {b : Bool} {Q : Handler → Jvm.Pre} {E : Jvm.CtlPost} {dd : Bool} {acts : List Action} (hx : covers x f.pc = true) (h0 : x.catchType ≠ 0)
    (hl : S.vm.ClassLinks e.platform f.method.cls x.catchType c) (hcell : S.heap[a]? = some cell) (hobj : ∀ k, cell.vm ≠ .statics k) (hk : ∃ k, S.vm.classes[cell.cls]? = some k) (hc : ∃ k, S.vm.classes[c]? = some k) (hb : S.vm.assignable cell.cls c = b) :
    Sem.wp (findHandler.go f a (x :: t)) Q E e dd acts S ↔ (bif b then Q (.found x.handlerPc) dd acts (S.setVm (S.vm.noted f.method.cls x.catchType (.cls c))) else Sem.wp (findHandler.go f a t) Q E e dd acts (S.setVm (S.vm.noted f.method.cls x.catchType (.cls c)))) := by
  simp only [covers] at hx
  obtain ⟨ha, ht⟩ := (resolveClass_links e.toSetting hl).op (op := VmOp.resolveClass f.method.cls x.catchType) rfl
  have hal : S.vm.Alike (S.vm.noted f.method.cls x.catchType (.cls c)) := (Vm.Alike.refl S.vm).noted _ _ _
  obtain ⟨k1, hk1⟩ := hk
  obtain ⟨k2, hk2⟩ := hc
  obtain ⟨k1', hk1', -⟩ := hal.2.2 _ _ hk1
  obtain ⟨k2', hk2', -⟩ := hal.2.2 _ _ hk2
  have hb' : (S.vm.noted f.method.cls x.catchType (.cls c)).assignable cell.cls c = b := by rw [hal.assignable]; exact hb
  cases b <;> simp [findHandler.go, hx, h0, ha, ht, hcell, hobj, hk1', hk2', hb', VmOp.dirties, VmOp.acts]
theorem zgoes {X : Nat} (hX3 : X < 3) (hobj : ∀ k, cell.vm ≠ .statics k) (hk0 : ∃ k, s.vm.classes[cell.cls]? = some k) (hL : ∀ Y, Y < 3 → ∃ c, s.vm.ClassLinks e.platform f.method.cls (zct Y) c ∧ s.vm.assignable cell.cls c = decide (Y = X)) :
    ∀ (rows : List ExceptionTableEntry) (q : Nat) (S : State), zfind X f.pc (rows.map (fun h => (h.startPc, h.endPc, h.handlerPc, h.catchType))) = some q → s.WarmedH S.vm → S.heap[a]? = some cell →
      ∃ vm', s.WarmedH vm' ∧ ∀ (Q : Handler → Jvm.Pre) (E : Jvm.CtlPost) (dd : Bool) (acts : List Action), Sem.wp (findHandler.go f a rows) Q E e dd acts S ↔ Q (.found q) dd acts (S.setVm vm') := by
  have hct : ∀ Y, zct Y ≠ 0 := fun Y => by
    match Y with
    | 0 => decide
    | 1 => decide
    | _ + 2 => show (27 : Nat) ≠ 0; decide
  intro rows
  induction rows with
  | nil => intro q S hz; cases hz
  | cons x t ih =>
    intro q S hz hW hcell
    have hz0 : (if x.startPc ≤ f.pc ∧ f.pc < x.endPc then (if x.catchType = zct X then some x.handlerPc else if x.catchType = 13 ∨ x.catchType = 18 ∨ x.catchType = 27 then zfind X f.pc (t.map (fun h => (h.startPc, h.endPc, h.handlerPc, h.catchType))) else none) else zfind X f.pc (t.map (fun h => (h.startPc, h.endPc, h.handlerPc, h.catchType)))) = some q := hz
    by_cases hcv : x.startPc ≤ f.pc ∧ f.pc < x.endPc
    · rw [if_pos hcv] at hz0
      have hc1 : covers x f.pc = true := by simp [covers, hcv]
      obtain ⟨k0, hk0'⟩ := hk0
      obtain ⟨k0', hk0'', -⟩ := hW.alike.2.2 _ _ hk0'
      by_cases he : x.catchType = zct X
      · rw [if_pos he] at hz0
        cases hz0
        obtain ⟨c, hl, hasg⟩ := hL X hX3
        rw [← he] at hl
        obtain ⟨dk, _, _, kt, hd, _, _, _, _, hkt, _, hop⟩ := hl.here
        obtain ⟨kt', hkt', -⟩ := hW.alike.2.2 _ _ hkt
        exact ⟨_, hW.noted hd hop (State.rightAt_cls hl), fun Q E dd acts => zgo1 (b := true) hc1 (by rw [he]; exact hct X) (hW.classLinks hl) hcell hobj ⟨k0', hk0''⟩ ⟨kt', hkt'⟩ (by rw [hW.alike.assignable, hasg]; simp)⟩
      · rw [if_neg he] at hz0
        by_cases h3 : x.catchType = 13 ∨ x.catchType = 18 ∨ x.catchType = 27
        · rw [if_pos h3] at hz0
          obtain ⟨Y, hY3, hYe⟩ : ∃ Y, Y < 3 ∧ x.catchType = zct Y := by
            rcases h3 with h | h | h
            · exact ⟨0, by omega, h⟩
            · exact ⟨1, by omega, h⟩
            · exact ⟨2, by omega, h⟩
          have hYX : Y ≠ X := fun z => he (z ▸ hYe)
          obtain ⟨c, hl, hasg⟩ := hL Y hY3
          rw [← hYe] at hl
          obtain ⟨dk, _, _, kt, hd, _, _, _, _, hkt, _, hop⟩ := hl.here
          obtain ⟨kt', hkt', -⟩ := hW.alike.2.2 _ _ hkt
          obtain ⟨vm', hW', hq⟩ := ih q (S.setVm (S.vm.noted f.method.cls x.catchType (.cls c))) hz0 (hW.noted hd hop (State.rightAt_cls hl)) hcell
          exact ⟨vm', hW', fun Q E dd acts => (zgo1 (b := false) hc1 (by rw [hYe]; exact hct Y) (hW.classLinks hl) hcell hobj ⟨k0', hk0''⟩ ⟨kt', hkt'⟩ (by rw [hW.alike.assignable, hasg]; simp [hYX])).trans (hq Q E dd acts)⟩
        · rw [if_neg h3] at hz0
          cases hz0
    · rw [if_neg hcv] at hz0
      obtain ⟨vm', hW', hq⟩ := ih q S hz0 hW hcell
      exact ⟨vm', hW', fun Q E dd acts => (Jvm.W.findHandler_go_skip (by simp only [covers, Bool.and_eq_false_iff, decide_eq_false_iff_not]; by_cases h1 : x.startPc ≤ f.pc
                                                                         · exact Or.inr (fun h2 => hcv ⟨h1, h2⟩)
                                                                         · exact Or.inl h1)).trans (hq Q E dd acts)⟩
end ZH
