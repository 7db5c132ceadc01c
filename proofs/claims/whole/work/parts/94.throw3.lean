section ZT3
variable {l : Launch} {D : va_G} {ad : Nat → Nat} {cI cL : ClassId} {M M' : zM} {sz : Nat} {p : Program} {e : Env} {R : Room} {s T : State} {m : MethodId} {args : Array Value} {below : List Frame} {meth : Method} {cd : Code} {locs : List Loc} {nc ns : Nat} {d C S n : Nat} {As : List zV} {h : zH} {K' : zR → zH → Prop} {g : JFrame}
/-- how it stands after a call that came back throwing: the throw over the caller's frame -/
def zThr (l : Launch) (D : va_G) (ad : Nat → Nat) (cI cL : ClassId) (sz : Nat) (p : Program) (e : Env) (R : Room) (s : State) (m : MethodId) (args : Array Value) (below : List Frame) (meth : Method) (cd : Code) (locs : List Loc) (nc ns C S : Nat) (K' : zR → zH → Prop) (g : JFrame) (S0 : State) : Prop :=
  ∃ (x X' : Nat) (h' : zH) (U : State) (Lc : List Loc) (cell : Cell), Stand p l e R s m args below meth cd U (locs ++ Lc) (nc + C) (ns + S) ∧ K' (.inr X') h' ∧ va_P D zcl (zW ad cI cL h') U.heap ∧ va_S (zA ad sz) s.heap U.heap (locs ++ Lc) ∧ s.heap.size ≤ x ∧ U.heap[x]? = some cell ∧ cell.vm = .none ∧ s.vm.findClass (zex X') = some cell.cls ∧ Steps p.tables e below S0 ((U.setTop g).pushFrame (.throwing x))
theorem zthr {ig : Instr} {mk : MethodId} (hC : zC l D ad cI cL M sz p s m args meth cd) (X : Stand p l e R s m args below meth cd T locs nc ns) (hS : va_S (zA ad sz) s.heap T.heap locs) (hP : va_P D zcl (zW ad cI cL h) T.heap)
    (hsp : zTP d C S M' As h K') (hO : zOk M' n) (hg : g.method = m) (hsize : g.locals.size = cd.maxLocals) (hdg : decode cd.code g.pc = .ok (ig, 3)) (hW : 2 * g.monitorRoom + (g.stack.map fun v => v.category).sum ≤ 8)
    (hn : T.methodNamed? M'.1 = some mk) (hRf : d + 8 + 1 ≤ R.frames) (hRl : 200 + 200 * (d + 1) ≤ R.locals) (hc : nc + C ≤ R.cells) (hs : ns + S ≤ R.slots) :
    zThr l D ad cI cL sz p e R s m args below meth cd locs nc ns C S K' g (doInvoke e (T.setTop g) [] mk (As.map (ztv ad)).toArray).1 := by
  have h0 : At T g.method cd below := by rw [hg]; exact X.here
  have hww : ∀ w ∈ ztb, ∀ a' : Array Value, w.before a' T = true := fun w hw a' => word_at X.warmed (good_of_word (List.mem_filter.mp hw).2) (hC.word hw)
  obtain ⟨methY, cY, hmY, hcY, -, hlY, -⟩ := Cond.code_spec hn (hww _ hO.1 #[])
  obtain ⟨kY, hkY, -⟩ := className_of_methodNamed hn
  have hinitY : kY.init = .initialized := Cond.initialized_spec (findClass_of_methodNamed hn) hkY (hww _ hO.2.2.2 #[])
  have hl180 := hO.2.2.1
  have happ : (headSpec (zws M') (zRm d C S)).appliesLoose M'.1 e.platform (T.calling g mk (As.map (ztv ad)).toArray) = true :=
    Spec.appliesLoose_calling (g := g) h0 hdg hn hkY hinitY
      (X.room_calling (g := g) (R' := zRm d C S) hsize hmY hcY hRf (by rw [hlY]; show _ + _ + 200 * (d + 1) ≤ _; omega) hc hs)
      (atoms_intro fun w hw => by
        rcases List.mem_cons.mp hw with rfl | hw
        · exact hww _ hO.1 _
        · exact hww _ hw _)
  obtain ⟨mid, hmid⟩ := h0.above
  have hfr : (T.setTop g).frames = (.java g :: mid) ++ below := by rw [State.frames_setTop' g h0.top, hmid]; rfl
  have hpc := zPc_blind _ _ g mk (zpre (As := As) hC hP hS T rfl X.warmed)
  obtain ⟨o, t, hsteps, -, hend, hq⟩ := Steps.callFree (hsp l D ad cI cL T.heap.size hC.inj hC.flag) p X.admits X.cas X.clock (acts := []) hfr happ hpc trivial
  obtain ⟨x, X', h', Lc, cell, rfl, hk, ⟨hP', -⟩, hF, ⟨hx1, hx2, hx3, hx4⟩, hW1, hsame, hLc⟩ := hq
  rw [State.frames_setTop' g h0.top, X.tail] at hend
  obtain ⟨U, XU, hWU, hsU, ht⟩ := X.outOfThrown hg hend hW1 hsame
  have eh : t.heap = U.heap := by rw [ht]; rfl
  have ev : t.vm = U.vm := by rw [ht]; rfl
  have sub := zA_mono (ad := ad) (a := sz) (b := T.heap.size) (by rw [← hC.hsz]; exact hS.1)
  have f1 : T.heap.size ≤ U.heap.size := by rw [← eh]; exact hF.1
  refine ⟨x, X', h', U, Lc, cell, XU, hk, by rw [← eh]; exact hP', ⟨Nat.le_trans hS.1 f1, fun q h1 h2 => ?_, fun q hq => ?_⟩, Nat.le_trans hS.1 hx1, by rw [← eh]; exact hx2, hx3, ?_, by rw [← ht]; exact hsteps⟩
  · rw [← eh, hF.2 q (Nat.lt_of_lt_of_le h1 hS.1) (fun z => h2 (sub q z))]
    exact hS.2.1 q h1 h2
  · rcases List.mem_append.mp hq with h | h
    · exact hS.2.2 q h
    · exact sub _ (hLc q h)
  · rw [← XU.warmed.alike.findClass, ← ev]
    exact hx4
theorem zthrV {idx q ci N : Nat} {ks : List (Bool ⊕ Nat)} {Tt : u_T} {rest : List zV} (hC : zC l D ad cI cL M sz p s m args meth cd) (X : Stand p l e R s m args below meth cd T locs nc ns) (hS : va_S (zA ad sz) s.heap T.heap locs) (hP : va_P D zcl (zW ad cI cL h) T.heap)
    (hsp : zTP d C S M' (.inr (.inr q) :: As) h K') (hO : zOkV M' n) (hl0 : Cond.methodLink M.1.cls idx M'.1 ∈ ztb) (hq : zS[q]? = some (.inr (ci, ks))) (hcl : zcl[ci]? = some (M'.1.cls, Tt, N)) (hn : As.length = n)
    (hg : g.method = m) (hsize : g.locals.size = cd.maxLocals) (hstack : g.stack = (As.reverse ++ .inr (.inr q) :: rest).map (ztv ad)) (hdg : decode cd.code g.pc = .ok (.invokevirtual idx, 3)) (hmr : g.monitorRoom = 0) (hw : zwt rest ≤ 8)
    (hRf : d + 8 + 1 ≤ R.frames) (hRl : 200 + 200 * (d + 1) ≤ R.locals) (hc : nc + C ≤ R.cells) (hs : ns + S ≤ R.slots) :
    zThr l D ad cI cL sz p e R s m args below meth cd locs nc ns C S K' { g with stack := rest.map (ztv ad) } (T.setTop g) := by
  have hst : g.stack = (As.map (ztv ad)).reverse ++ .ref (ad q) :: rest.map (ztv ad) := by rw [hstack]; simp [ztv]
  obtain ⟨cellB, hcB, hoB, hclB⟩ := va_recv hC.K hP hcl (zW_get hq)
  obtain ⟨mk, methM, hnamed, hmethM, hstM, habM⟩ := Cond.instanceMethod_spec (hC.word hO.2.1)
  obtain ⟨methM', cM, hmethM', -, -, -, -, -, -, hsigM⟩ := Cond.code_spec hnamed (hC.word hO.1.1)
  cases hmethM.symm.trans hmethM'
  have hy : M'.1.cls ≠ "java/lang/invoke/MethodHandle" ∧ M'.1.cls ≠ "java/lang/invoke/VarHandle" := ⟨hO.1.2.1.1, hO.1.2.1.2.1⟩
  obtain ⟨c2, r2, m2, q1, q2, q3, q4, kP, hkP, hkPi⟩ := Cond.selects_spec (hC.word hO.2.2)
  cases hclB.symm.trans q1
  cases (State.methodFound?_of_named hnamed hy).symm.trans q2
  cases hnamed.symm.trans q3
  have hselP : selectMethod e.platform s.vm cellB.cls mk = .method mk := by rw [Launch.admits_selectMethod X.admits]; exact q4
  have hlen : (As.map (ztv ad)).length = methM.sig.parameters.length := by
    have h2 := hO.1.2.1.2.2
    rw [hsigM] at h2
    rw [List.length_map, hn]
    exact (Option.some.inj h2).symm
  obtain ⟨vm₁, X₁, hstep₁⟩ := X.invokevirtual hC.1 hC.own (hC.word hl0) hnamed hmethM hstM hkP hkPi hy (a := ad q) (cell := cellB) hcB
    (fun z h => by rw [h] at hoB; cases hoB) hselP hmethM habM hkP hkPi (g := g) hg (argsL := As.map (ztv ad)) (rest := rest.map (ztv ad)) hlen hst hdg
  obtain ⟨x, X', h', U, Lc, cell, a1, a2, a3, a4, a5, a6, a7, a8, st⟩ := zthr (T := T.setVm vm₁) (g := { g with stack := rest.map (ztv ad) }) (mk := mk) hC X₁ hS hP hsp hO.1 hg hsize hdg (by show 2 * g.monitorRoom + _ ≤ 8; rw [hmr, zwt_eq]; omega) (X₁.named hnamed) hRf hRl hc hs
  exact ⟨x, X', h', U, Lc, cell, a1, a2, a3, a4, a5, a6, a7, a8, hstep₁ _ fun acts => by rw [doInvoke_state]; exact st⟩
theorem zthrS {idx : Nat} {rest : List zV} (hC : zC l D ad cI cL M sz p s m args meth cd) (X : Stand p l e R s m args below meth cd T locs nc ns) (hS : va_S (zA ad sz) s.heap T.heap locs) (hP : va_P D zcl (zW ad cI cL h) T.heap)
    (hsp : zTP d C S M' As h K') (hO : zOkS M' n) (hl0 : Cond.methodLink M.1.cls idx M'.1 ∈ ztb) (hn : As.length = n)
    (hg : g.method = m) (hsize : g.locals.size = cd.maxLocals) (hstack : g.stack = (As.reverse ++ rest).map (ztv ad)) (hdg : decode cd.code g.pc = .ok (.invokestatic idx, 3)) (hmr : g.monitorRoom = 0) (hw : zwt rest ≤ 8)
    (hRf : d + 8 + 1 ≤ R.frames) (hRl : 200 + 200 * (d + 1) ≤ R.locals) (hc : nc + C ≤ R.cells) (hs : ns + S ≤ R.slots) :
    zThr l D ad cI cL sz p e R s m args below meth cd locs nc ns C S K' { g with stack := rest.map (ztv ad) } (T.setTop g) := by
  have hst : g.stack = (As.map (ztv ad)).reverse ++ rest.map (ztv ad) := by rw [hstack]; simp
  obtain ⟨mk, hnamed⟩ := Cond.code_named (hC.word hO.1.1)
  obtain ⟨methM, cM, hmethM, -, -, -, -, -, -, hsigM⟩ := Cond.code_spec hnamed (hC.word hO.1.1)
  have hy : M'.1.cls ≠ "java/lang/invoke/MethodHandle" ∧ M'.1.cls ≠ "java/lang/invoke/VarHandle" := ⟨hO.1.2.1.1, hO.1.2.1.2.1⟩
  have hstatic : methM.isStatic = true := Cond.static_spec hnamed hmethM (hC.word hO.2)
  obtain ⟨kP, hkP, -⟩ := className_of_methodNamed hnamed
  have hinitP : kP.init = .initialized := Cond.initialized_spec (findClass_of_methodNamed hnamed) hkP (hC.word hO.1.2.2.2)
  have hlen : (As.map (ztv ad)).length = methM.sig.parameters.length := by
    have h2 := hO.1.2.1.2.2
    rw [hsigM] at h2
    rw [List.length_map, hn]
    exact (Option.some.inj h2).symm
  obtain ⟨vm₁, X₁, hstep₁⟩ := X.invokestatic hC.1 hC.own (hC.word hl0) hnamed hmethM hstatic hkP hinitP hy (g := g) hg (argsL := As.map (ztv ad)) (rest := rest.map (ztv ad)) hlen hst hdg
  obtain ⟨x, X', h', U, Lc, cell, a1, a2, a3, a4, a5, a6, a7, a8, st⟩ := zthr (T := T.setVm vm₁) (g := { g with stack := rest.map (ztv ad) }) (mk := mk) hC X₁ hS hP hsp hO.1 hg hsize hdg (by show 2 * g.monitorRoom + _ ≤ 8; rw [hmr, zwt_eq]; omega) (X₁.named hnamed) hRf hRl hc hs
  exact ⟨x, X', h', U, Lc, cell, a1, a2, a3, a4, a5, a6, a7, a8, hstep₁ _ fun acts => by rw [doInvoke_state]; exact st⟩
end ZT3
