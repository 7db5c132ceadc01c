/-! throws. A walk is taken up anew at its present state, as if the method began there: what the library says of a throw is then said of the heap as it is. -/
section ZThrow
variable {p : Program} {l : Launch} {e : Env} {R : Room} {s : State} {m : MethodId} {args : Array Value} {below : List Frame} {meth : Method} {c : Code} {T : State} {locs : List Loc} {cells slots : Nat}
theorem zrebase (X : Stand p l e R s m args below meth c T locs cells slots) {C' S' : Nat} (h1 : cells + C' ≤ R.cells) (h2 : slots + S' ≤ R.slots) : Stand p l e { R with cells := C', slots := S' } (T.setFrames (.invoking m args :: below)) m args below meth c T [] 0 0 := by
  obtain ⟨g₀, hfr⟩ := X.frames_eq
  obtain ⟨th, hth, -⟩ := State.frames_cons hfr
  have hcur := State.cur_lt_of_frames hfr
  have hf : (T.setFrames (.invoking m args :: below)).frames = .invoking m args :: below := State.frames_setFrames _ hcur
  have hm : (T.setFrames (.invoking m args :: below)).vm.method? m = some meth := X.method'
  have hal := X.warmed.alike
  refine ⟨X.admits, X.cas, X.clock, hf, ?_, ?_, hm, X.code, X.here, X.tail, State.WarmedH.refl _, by rw [State.stackLimits_setFrames], by rw [State.stackBytes_setFrames], ?_⟩
  · have hr := X.room
    have hl0 := State.localsInUse_invoking X.frames X.method X.code
    have hl1 := State.localsInUse_invoking hf hm X.code
    have hc : T.heap.size + C' ≤ e.platform.maxCells := X.cellsAbove (n := C') h1
    have hs : T.slotsUsed + S' ≤ e.platform.maxSlots := X.slotsAbove (n := S') h2
    have hb : T.slotsTrue = true := X.book
    have hlim := X.limits
    have hby := X.bytes
    simp only [State.hasRoom, Bool.and_eq_true, decide_eq_true_eq] at hr ⊢
    rw [hl0, X.frames] at hr
    rw [hl1, hf, State.stackLimits_setFrames, State.stackBytes_setFrames, hlim, hby]
    obtain ⟨⟨⟨⟨r1, r2⟩, r3⟩, r4⟩, r5⟩ := hr
    exact ⟨⟨⟨⟨r1, r2⟩, hc⟩, hs⟩, hb⟩
  · have hh := X.hears
    have e1 : ∀ k, (T.setFrames (.invoking m args :: below)).code? k = s.code? k := fun k => by
      rw [State.code?_eq, State.code?_eq]
      show (T.vm.method? k).bind _ = _
      rw [hal.method?]
    have e2 : (T.setFrames (.invoking m args :: below)).vm.method? m = s.vm.method? m := hm.trans X.method.symm
    generalize T.setFrames (.invoking m args :: below) = U at e1 e2 ⊢
    rw [← hh]
    cases below with
    | nil => simp only [State.hears, e2]
    | cons f r => cases f <;> simp only [State.hears, e1, e2]
  · have ht' : (T.setFrames (.invoking m args :: below)).cur < (T.setFrames (.invoking m args :: below)).threads.size := State.cur_lt_of_frames hf
    obtain ⟨th', hth', -⟩ := State.frames_cons hf
    have h := (State.sameButNew.refl (T.setFrames (.invoking m args :: below)) hth').setFrames T.frames ht'
    rw [State.setFrames_setFrames, State.setFrames_self hth] at h
    exact h
/-- no slot was written: the old cells are as they were -/
theorem zsame_old {s t : State} {c n : Nat} (h : s.sameButNew t [] c n) {a : Addr} {cell : Cell} (ha : s.heap[a]? = some cell) : t.heap[a]? = some cell := by
  obtain ⟨c', h1, h2, h3, h4⟩ := h.2.2.2.2.2 a cell ha
  have e : c'.slots = cell.slots := by
    apply Array.ext_getElem?
    intro i
    exact h4 i (by simp)
  rw [h1, h2, e]
end ZThrow
