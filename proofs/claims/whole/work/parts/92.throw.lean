/-! throws: a new exception with a text is thrown; a call that comes back throwing; a throw that is caught -/
def zIc : Nat → Nat
  | 0 => 44
  | 1 => 58
  | _ => 117
def zix : Nat → Nat
  | 1 => 13
  | _ => 7
def zrx : Nat → ByteArray
  | 1 => ⟨#[0x2a, 0x2b, 0xb7, 0x00, 0x0d, 0xb1]⟩
  | _ => Bundle.six
theorem zrx_dec {X : Nat} (hX : X < 3) : decode (zrx X) 0 = .ok (.aload_n 0, 1) ∧ decode (zrx X) 1 = .ok (.aload_n 1, 1) ∧ decode (zrx X) 2 = .ok (.invokespecial (zix X), 3) ∧ decode (zrx X) 5 = .ok (.return_, 1) := by
  match X, hX with
  | 0, _ => exact ⟨by decide +kernel, by decide +kernel, by decide +kernel, by decide +kernel⟩
  | 1, _ => exact ⟨by decide +kernel, by decide +kernel, by decide +kernel, by decide +kernel⟩
  | 2, _ => exact ⟨by decide +kernel, by decide +kernel, by decide +kernel, by decide +kernel⟩
theorem zfit_ex {X : Nat} : Bundle.fit (zex X) = true := by
  match X with
  | 0 => decide +kernel
  | 1 => decide +kernel
  | _ + 2 => show Bundle.fit "java/lang/IllegalArgumentException" = true; decide +kernel
def zown (X : Nat) : List Cond := [.methodLink "RoundLab" (zIc X) (Bundle.initS (zex X)), .instantiable (zex X) 6, .selects (zex X) Bundle.tFill0 Bundle.tFill0, .selects (zex X) Bundle.tFill Bundle.tFill,
   .lays (zex X) Bundle.tN "cause" "Ljava/lang/Throwable;", .lays (zex X) Bundle.tN "stackTrace" Bundle.steD, .lays (zex X) Bundle.tN "suppressedExceptions" Bundle.listD, .lays (zex X) Bundle.tN "detailMessage" "Ljava/lang/String;",
   .isRef (.static Bundle.tN "UNASSIGNED_STACK" Bundle.steD), .isRef (.static Bundle.tN "SUPPRESSED_SENTINEL" Bundle.listD), .fieldLink Bundle.tN 198 Bundle.tN "backtrace" "Ljava/lang/Object;", .lays Bundle.tN Bundle.tN "backtrace" "Ljava/lang/Object;", .lays (zex X) Bundle.tN "backtrace" "Ljava/lang/Object;"]
def zatoms (X : Nat) : List Cond := Bundle.throwableAtoms ++ (Bundle.throwableSAtoms ++ (Bundle.passSAtoms (zex X) "java/lang/RuntimeException" (zix X) (zrx X) ++ (Bundle.chainSAtoms "java/lang/RuntimeException" ["java/lang/Exception"] ++ zown X)))
section ZCtor
variable {p : Program} {l : Launch} {e : Env} {R : Room} {s : State} {m : MethodId} {args : Array Value} {below : List Frame} {meth : Method} {c : Code} {T0 : State} {cells slots : Nat}
set_option maxHeartbeats 1000000 in
theorem zctor (X0 : Stand p l e R s m args below meth c T0 [] cells slots) (hexec : p.tables.exec = Jvm.exec) (htr : e.platform.stackTraces = false) {X : Nat} (hX : X < 3)
    (hown : s.vm.findClass "RoundLab" = some m.cls) (h : ∀ w ∈ zatoms X, w.before args s = true)
    {a : Addr} {cX : ClassId} {kX : Class} (hfX : s.vm.findClass (zex X) = some cX) (hkX : s.vm.classes[cX]? = some kX) (hcell : T0.heap[a]? = some (freshCell cX kX)) (hnew : s.heap.size ≤ a) {msg : Value} (hmsg : msg.isRef = true)
    {g : JFrame} (hg : g.method = m) (hsize : g.locals.size = c.maxLocals) (hlocked : g.locked = none) (hentered : g.entered = []) (hstack : g.stack = [msg, .ref a, .ref a])
    (hd6 : decode c.code g.pc = .ok (.invokespecial (zIc X), 3)) (hd9 : decode c.code (g.pc + 3) = .ok (.athrow, 1)) (hout : ∀ x ∈ c.exceptionTable.toList, covers x (g.pc + 3) = false)
    (hRf : 5 < R.frames) (hRl : 2 * g.monitorRoom + 1 + 81 ≤ R.locals) (hlocks : meth.locks = false) :
    ∃ U : State, Steps p.tables e below (T0.setTop g) U ∧ U.status = .running ∧ Ended U below (.threw a) ∧ s.WarmedH U.vm ∧ s.sameButNew ({ U with vm := s.vm } : State) [] cells slots ∧
      ∃ ce, U.heap[a]? = some ce ∧ ce.cls = cX ∧ ce.vm = .none := by
  obtain ⟨x0, x1, x2, x5⟩ := zrx_dec hX
  have hpl : e.platform.magicAccessors = ({} : Platform).magicAccessors := by rw [X0.admits.platform]
  have hA : ∀ w ∈ Bundle.throwableAtoms, w.before args s = true := fun w hw => h w (List.mem_append_left _ hw)
  have hB : ∀ w ∈ Bundle.throwableSAtoms, w.before args s = true := fun w hw => h w (List.mem_append_right _ (List.mem_append_left _ hw))
  have hPw : ∀ w ∈ Bundle.passSAtoms (zex X) "java/lang/RuntimeException" (zix X) (zrx X), w.before args s = true := fun w hw => h w (List.mem_append_right _ (List.mem_append_right _ (List.mem_append_left _ hw)))
  have hCw : ∀ w ∈ Bundle.chainSAtoms "java/lang/RuntimeException" ["java/lang/Exception"], w.before args s = true := fun w hw => h w (List.mem_append_right _ (List.mem_append_right _ (List.mem_append_right _ (List.mem_append_left _ hw))))
  have hO : ∀ w ∈ zown X, w.before args s = true := fun w hw => h w (List.mem_append_right _ (List.mem_append_right _ (List.mem_append_right _ (List.mem_append_right _ hw))))
  obtain ⟨T, Z0, L, -, Y⟩ := ThrowableC.of_atoms (args := args) (by rw [X0.admits.platform]) (by rw [X0.admits.platform]) hpl hA
  obtain ⟨Z, Ms, LZ, LM, hnZ⟩ := Init0T.ofS_atoms (args := args) hpl L Y hB
  obtain ⟨P1, L1, hm1, hs1⟩ := PassC.ofS_atoms (args := args) (s := s) hpl (X := zex X) (Y := "java/lang/RuntimeException") (Bundle.fit_spec zfit_ex).1 (by decide) x0 x1 x2 x5 hPw
  obtain ⟨P2, Ps, hlen, L2, hL, hm2, hl2, hl3⟩ := Bundle.chainS (args := args) hpl hnZ ["java/lang/Exception"] "java/lang/RuntimeException" (by decide +kernel) (by decide +kernel) hCw
  have hc1 : s.vm.findClass (zex X) = some P1.m.cls := findClass_of_methodNamed hm1
  cases hfX.symm.trans hc1
  obtain ⟨c1, kX', hc1', hk, hord, -, -, hn6⟩ := Cond.instantiable_spec (hO (.instantiable (zex X) 6) (by simp [zown]))
  cases hc1'.symm.trans hc1
  cases hkX.symm.trans hk
  have hsel0 : selectMethod e.platform s.vm P1.m.cls T.fill0 = .method T.fill0 := by
    obtain ⟨c2, r2, m2, q1, q2, q3, q4, -⟩ := Cond.selects_spec (hO (.selects (zex X) Bundle.tFill0 Bundle.tFill0) (by simp [zown]))
    cases q1.symm.trans hc1
    cases q2.symm.trans (State.methodFound?_of_named Y.fill0 (by decide))
    cases q3.symm.trans Y.fill0
    rw [Launch.admits_selectMethod X0.admits]
    exact q4
  have hselF : selectMethod e.platform s.vm P1.m.cls T.fill = .method T.fill := by
    obtain ⟨c2, r2, m2, q1, q2, q3, q4, -⟩ := Cond.selects_spec (hO (.selects (zex X) Bundle.tFill Bundle.tFill) (by simp [zown]))
    cases q1.symm.trans hc1
    cases q2.symm.trans (State.methodFound?_of_named Y.fill (by decide))
    cases q3.symm.trans Y.fill
    rw [Launch.admits_selectMethod X0.admits]
    exact q4
  obtain ⟨cellS, hcS, hiss⟩ := Y.statics
  obtain ⟨u0, hu0⟩ := Cond.staticRefV Y.unassigned L.unassignedStatic L.statics hcS hiss (hO (.isRef (.static Bundle.tN "UNASSIGNED_STACK" Bundle.steD)) (by simp [zown]))
  obtain ⟨sen, hsen⟩ := Cond.staticRefV Y.sentinel L.sentinelStatic L.statics hcS hiss (hO (.isRef (.static Bundle.tN "SUPPRESSED_SENTINEL" Bundle.listD)) (by simp [zown]))
  obtain ⟨ci, ib, fB, b1, b2, b3, b4, -, hnB, htB, hffB⟩ := Cond.ownField (t := .object "java/lang/Object") Y.found L.cls (by decide +kernel) (hO (.fieldLink Bundle.tN 198 Bundle.tN "backtrace" "Ljava/lang/Object;") (by simp [zown])) (hO (.lays Bundle.tN Bundle.tN "backtrace" "Ljava/lang/Object;") (by simp [zown])) e.platform hpl
  have hcT : T0.heap[T.aS]? = some cellS := zsame_old X0.same hcS
  have hknownS : cellS.vm ≠ .unknown := fun q => by rw [q] at hiss; cases hiss
  have hneS : T.aS ≠ a := Nat.ne_of_lt (Nat.lt_of_lt_of_le (Array.getElem?_eq_some_iff.mp hcS).1 hnew)
  obtain ⟨iM, hffM⟩ := Y.msg
  obtain ⟨tyC, dC, hdC, hdnC⟩ := Cond.laysAt hc1 hk Y.cause (hO (.lays (zex X) Bundle.tN "cause" "Ljava/lang/Throwable;") (by simp [zown]))
  obtain ⟨tyS, dS, hdS, hdnS⟩ := Cond.laysAt hc1 hk Y.stack (hO (.lays (zex X) Bundle.tN "stackTrace" Bundle.steD) (by simp [zown]))
  obtain ⟨tyP, dP, hdP, hdnP⟩ := Cond.laysAt hc1 hk Y.supp (hO (.lays (zex X) Bundle.tN "suppressedExceptions" Bundle.listD) (by simp [zown]))
  obtain ⟨tyM, dM, hdM, hdnM⟩ := Cond.laysAt hc1 hk hffM (hO (.lays (zex X) Bundle.tN "detailMessage" "Ljava/lang/String;") (by simp [zown]))
  obtain ⟨tyB, dB, hdB, hdnB⟩ := Cond.laysAt hc1 hk hffB (hO (.lays (zex X) Bundle.tN "backtrace" "Ljava/lang/Object;") (by simp [zown]))
  have bC := Cond.laysApart hdB hdC hdnB hdnC (by rw [hnB, Y.causeName]; decide)
  have bS := Cond.laysApart hdB hdS hdnB hdnS (by rw [hnB, Y.stackName]; decide)
  have bP := Cond.laysApart hdB hdP hdnB hdnP (by rw [hnB, Y.suppName]; decide)
  have hskip : SkipFacts T e.platform s (fun u => u) u0 ((preparedCellV T.toThrowableT (freshCell P1.m.cls kX) a u0 sen).withEntry T0.cur) :=
    ⟨{ ci198 := ci, i198 := ib, fBack := fB }, ⟨b1, b2, b3, b4⟩, by
      have z := fresh_default (c := P1.m.cls) tyB
      rw [htB] at z
      simpa [preparedCellV, Cell.setSlot, Cell.withEntry, Array.getElem?_setIfInBounds, bC, bS, bP, bC.symm, bS.symm, bP.symm, defaultValue] using z, fun _ _ => rfl⟩
  obtain ⟨tm, methC, cdC, kC, vm₁, hnC, -, -, -, -, -, -, -, hW₁, st1⟩ := Steps.initColdS (tb := p.tables) (e := e) (below := below) (s := s) (U := T0) X0.here hexec X0.warmed hpl hown (t := Bundle.initS (zex X)) rfl rfl (Bundle.fit_spec zfit_ex).2
    (hO (.methodLink "RoundLab" (zIc X) (Bundle.initS (zex X))) (by simp [zown])) (hPw (.instanceMethod (Bundle.initS (zex X))) (by simp [Bundle.passSAtoms])) (bytes := zrx X) (maxL := 2) (hPw (.code (Bundle.initS (zex X)) (zrx X) 2 none) (by simp [Bundle.passSAtoms]))
    (f := g) hg (a := a) (msg := msg) (rest := [.ref a]) hstack hd6
  cases hnC.symm.trans hm1
  obtain ⟨vm₂, X2, st2⟩ := (X0.noted hW₁).ctorMessageOffV hexec (g := { g with stack := [.ref a] }) hg hsize T L Z LZ Ms LM (P1 :: P2 :: Ps)
    (fun P hP => by
      rcases List.mem_cons.mp hP with rfl | hP
      · exact L1
      rcases List.mem_cons.mp hP with rfl | hP
      · exact L2
      · exact hL P hP) ⟨Option.some.inj (hs1.symm.trans hm2), hl2, hl3⟩ (u0 := u0) (sen := sen) (self := a) hmsg (cell := freshCell P1.m.cls kX) (cellS := cellS)
    hcell (fun _ => by simp) (by simp) rfl rfl hsel0 hselF hcT hneS hknownS hu0 hsen
    (Takes.of_laid hk hord tyC (by rw [Y.causeType]; rfl)) (Takes.of_laid hk hord tyS (by rw [Y.stackType]; exact fits_refV_array _ u0)) (Takes.of_laid hk hord tyP (by rw [Y.suppType]; exact fits_refV_object _ sen))
    (Takes.of_laid hk hord tyM (by rw [Y.msgType]; exact fits_refV_object _ ⟨msg, hmsg⟩)) Y.objLocals hskip htr [] hd6
    (by simp only [List.length_cons, hlen, List.length_nil]; omega) (by
      simp only [List.length_cons, hlen, List.length_nil]
      have z : (([Value.ref a] : List Value).map fun v => v.category).sum = 1 := rfl
      show 2 * g.monitorRoom + (([Value.ref a] : List Value).map fun v => v.category).sum + _ ≤ _
      rw [z]
      omega)
  obtain ⟨hwalk, hrun, hended, hWU, hsame⟩ := X2.athrowLeaves hexec (g := { g with stack := [.ref a], pc := g.pc + 3 }) hg hlocked hentered hout (a := a) (rest := []) rfl hd9 hlocks
  have hlt : a < T0.heap.size := (Array.getElem?_eq_some_iff.mp hcell).1
  refine ⟨_, st1 _ (fun acts => ?_), hrun, hended, hWU, hsame.weaken (fun y hy hlt' => ?_) (Nat.le_refl _) (Nat.le_refl _), _, heapAt_setCell_self (s := (T0.setVm vm₁).setVm vm₂) (plainBareV T.toThrowableT (freshCell P1.m.cls kX) a u0 sen msg) hlt, rfl, rfl⟩
  · rw [doInvoke_state]
    exact st2 _ hwalk
  · exfalso
    have hb : y.base = a := by
      simp only [List.nil_append, List.mem_cons, List.not_mem_nil, or_false] at hy
      rcases hy with rfl | rfl | rfl | rfl | rfl <;> rfl
    rw [hb] at hlt'
    exact Nat.not_lt.mpr hnew hlt'
end ZCtor
section ZT
variable {l : Launch} {D : va_G} {ad : Nat → Nat} {cI cL : ClassId} {M : zM} {sz : Nat} {p : Program} {e : Env} {R : Room} {s T : State} {m : MethodId} {args : Array Value} {below : List Frame} {meth : Method} {cd : Code} {locs : List Loc} {nc ns : Nat}
/-- the context, said of the state as it is -/
theorem zC.re (h : zC l D ad cI cL M sz p s m args meth cd) (X : Stand p l e R s m args below meth cd T locs nc ns) (hS : va_S (zA ad sz) s.heap T.heap locs) : zC l D ad cI cL M T.heap.size p (T.setFrames (.invoking m args :: below)) m args meth cd := by
  have hW : s.WarmedH (T.setFrames (.invoking m args :: below)).vm := X.warmed
  refine ⟨h.1, h.2.1, h.2.2.1, ?_, ?_, h.ret, h.locks, va_K.moved hW.alike h.K, rfl, h.inj, h.stat.next h.hsz hS hW.alike, h.exc, h.flag, h.nw.warm hW⟩
  · rw [hW.alike.findClass]; exact h.own
  · intro w hw
    exact word_at hW (good_of_word (List.mem_filter.mp hw).2) (h.word hw)
end ZT
abbrev zIr1 : Cond := .isRef (.static "java/lang/Throwable" "UNASSIGNED_STACK" Bundle.steD)
abbrev zIr2 : Cond := .isRef (.static "java/lang/Throwable" "SUPPRESSED_SENTINEL" Bundle.listD)
abbrev zIl1 : Cond := .laysStatic "java/lang/Throwable" "UNASSIGNED_STACK" Bundle.steD
abbrev zIl2 : Cond := .laysStatic "java/lang/Throwable" "SUPPRESSED_SENTINEL" Bundle.listD
def zAtB (X : Nat) : Bool := (zatoms X).all (fun w => decide (w ∈ ztb) || (decide (w ∈ lw_tbl) && znest w) || decide (w = zIr1) || decide (w = zIr2) || decide (w = zIl1) || decide (w = zIl2))
set_option maxRecDepth 100000 in
theorem zAt0 : zAtB 0 = true := by decide +kernel
set_option maxRecDepth 100000 in
theorem zAt1 : zAtB 1 = true := by decide +kernel
set_option maxRecDepth 100000 in
theorem zAt2 : zAtB 2 = true := by decide +kernel
theorem zxC0 : Cond.classLink "RoundLab" 40 (zex 0) ∈ ztb := by decide +kernel
theorem zxC1 : Cond.classLink "RoundLab" 54 (zex 1) ∈ ztb := by decide +kernel
theorem zxC2 : Cond.classLink "RoundLab" 113 (zex 2) ∈ ztb := by decide +kernel
theorem zxN0 : Cond.instantiable (zex 0) 6 ∈ ztb := by decide +kernel
theorem zxN1 : Cond.instantiable (zex 1) 6 ∈ ztb := by decide +kernel
theorem zxN2 : Cond.instantiable (zex 2) 6 ∈ ztb := by decide +kernel
theorem zxI0 : Cond.initialized (zex 0) ∈ ztb := by decide +kernel
theorem zxI1 : Cond.initialized (zex 1) ∈ ztb := by decide +kernel
theorem zxI2 : Cond.initialized (zex 2) ∈ ztb := by decide +kernel
theorem zxS115 : Cond.stringRef "RoundLab" 115 "not a set of its processes" ∈ lw_tbl := by decide +kernel
theorem zxS127 : Cond.stringRef "RoundLab" 127 "no run, or 60 rounds were done" ∈ lw_tbl := by decide +kernel
theorem zxS132 : Cond.stringRef "RoundLab" 132 "no such variable" ∈ lw_tbl := by decide +kernel
theorem zxS162 : Cond.stringRef "RoundLab" 162 "no such number of a run to a violation" ∈ lw_tbl := by decide +kernel
theorem zxS167 : Cond.stringRef "RoundLab" 167 "no such word" ∈ lw_tbl := by decide +kernel
theorem zxS182 : Cond.stringRef "RoundLab" 182 "nothing that is counted" ∈ lw_tbl := by decide +kernel
theorem zxS184 : Cond.stringRef "RoundLab" 184 "no checked program" ∈ lw_tbl := by decide +kernel
theorem zxS186 : Cond.stringRef "RoundLab" 186 "no run, or no such process" ∈ lw_tbl := by decide +kernel
theorem zxS188 : Cond.stringRef "RoundLab" 188 "a number that is too small or too large" ∈ lw_tbl := by decide +kernel
theorem zxS42 : Cond.stringRef "RoundLab" 42 "there are 400 words" ∈ lw_tbl := by decide +kernel
theorem zxS56 : Cond.stringRef "RoundLab" 56 "no such program" ∈ lw_tbl := by decide +kernel
theorem zxS88 : Cond.stringRef "RoundLab" 88 "no such expression" ∈ lw_tbl := by decide +kernel
theorem zxS97 : Cond.stringRef "RoundLab" 97 "no such process" ∈ lw_tbl := by decide +kernel
