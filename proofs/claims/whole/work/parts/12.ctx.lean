/-! the classes whose objects the world holds: fields in the order of the text -/
def zT0 : u_T := fun k => match k with
  | 0 => ("RoundLab", "program", "LRoundLab$Program;", true)
  | 1 => ("RoundLab", "inputs", "[I", true)
  | 2 => ("RoundLab", "run", "LRoundLab$Run;", true)
  | _ => ("RoundLab", "search", "LRoundLab$Search;", true)
def zT1 : u_T := fun k => match k with
  | 0 => ("RoundLab$Program", "words", "[I", true)
  | 1 => ("RoundLab$Program", "begins", "[I", true)
  | 2 => ("RoundLab$Program", "depths", "[I", true)
  | 3 => ("RoundLab$Program", "size", "I", false)
  | 4 => ("RoundLab$Program", "checked", "Z", false)
  | 5 => ("RoundLab$Program", "phases", "I", false)
  | 6 => ("RoundLab$Program", "variables", "I", false)
  | 7 => ("RoundLab$Program", "error", "I", false)
  | _ => ("RoundLab$Program", "deepest", "I", false)
def zT2 : u_T := fun k => match k with
  | 0 => ("RoundLab$Run", "group", "LRoundLab$Group;", true)
  | 1 => ("RoundLab$Run", "sets", "[I", true)
  | 2 => ("RoundLab$Run", "rounds", "I", false)
  | 3 => ("RoundLab$Run", "program", "LRoundLab$Program;", true)
  | _ => ("RoundLab$Run", "nextValues", "[I", true)
def zT3 : u_T := fun k => match k with
  | 0 => ("RoundLab$Group", "ears", "LRoundLab$Ears;", true)
  | 1 => ("RoundLab$Group", "values", "[I", true)
  | 2 => ("RoundLab$Group", "processes", "I", false)
  | 3 => ("RoundLab$Group", "program", "LRoundLab$Program;", true)
  | 4 => ("RoundLab$Group", "stack", "[I", true)
  | 5 => ("RoundLab$Group", "phase", "I", false)
  | 6 => ("RoundLab$Group", "cycle", "I", false)
  | _ => ("RoundLab$Group", "me", "I", false)
def zT4 : u_T := fun k => match k with
  | 0 => ("RoundLab$Ears", "messages", "[I", true)
  | 1 => ("RoundLab$Ears", "heard", "I", false)
  | 2 => ("RoundLab$Ears", "least", "I", false)
  | 3 => ("RoundLab$Ears", "greatest", "I", false)
  | 4 => ("RoundLab$Ears", "most", "I", false)
  | 5 => ("RoundLab$Ears", "times", "I", false)
  | _ => ("RoundLab$Ears", "set", "I", false)
def zT5 : u_T := fun k => match k with
  | 0 => ("RoundLab$Search", "found", "I", false)
  | 1 => ("RoundLab$Search", "pathRounds", "I", false)
  | 2 => ("RoundLab$Search", "pathLength", "I", false)
  | 3 => ("RoundLab$Search", "path", "[I", true)
  | 4 => ("RoundLab$Search", "program", "LRoundLab$Program;", true)
  | 5 => ("RoundLab$Search", "group", "LRoundLab$Group;", true)
  | 6 => ("RoundLab$Search", "states", "[J", true)
  | 7 => ("RoundLab$Search", "parents", "[I", true)
  | 8 => ("RoundLab$Search", "codes", "[I", true)
  | 9 => ("RoundLab$Search", "table", "[I", true)
  | 10 => ("RoundLab$Search", "hearings", "[I", true)
  | 11 => ("RoundLab$Search", "nexts", "[J", true)
  | 12 => ("RoundLab$Search", "hearingCount", "I", false)
  | 13 => ("RoundLab$Search", "n", "I", false)
  | 14 => ("RoundLab$Search", "ended", "Z", false)
  | _ => ("RoundLab$Search", "outcome", "I", false)
def zT6 : u_T := fun k => match k with
  | 0 => ("RoundLabModel", "thrown", "I", false)
  | 1 => ("RoundLabModel", "many", "I", false)
  | 2 => ("RoundLabModel", "words", "[I", true)
  | 3 => ("RoundLabModel", "checked", "Z", false)
  | 4 => ("RoundLabModel", "begins", "[I", true)
  | 5 => ("RoundLabModel", "finish", "[I", true)
  | 6 => ("RoundLabModel", "depths", "[I", true)
  | 7 => ("RoundLabModel", "phases", "I", false)
  | 8 => ("RoundLabModel", "variables", "I", false)
  | 9 => ("RoundLabModel", "inputs", "[I", true)
  | 10 => ("RoundLabModel", "processes", "I", false)
  | 11 => ("RoundLabModel", "rounds", "I", false)
  | 12 => ("RoundLabModel", "sets", "[I", true)
  | 13 => ("RoundLabModel", "states", "[I", true)
  | 14 => ("RoundLabModel", "nexts", "[I", true)
  | 15 => ("RoundLabModel", "messages", "[I", true)
  | 16 => ("RoundLabModel", "all", "I", false)
  | 17 => ("RoundLabModel", "cycles", "I", false)
  | 18 => ("RoundLabModel", "heard", "I", false)
  | 19 => ("RoundLabModel", "row", "[I", true)
  | 20 => ("RoundLabModel", "parts", "[I", true)
  | 21 => ("RoundLabModel", "found", "I", false)
  | 22 => ("RoundLabModel", "codes", "[J", true)
  | 23 => ("RoundLabModel", "from", "[I", true)
  | 24 => ("RoundLabModel", "by", "[I", true)
  | 25 => ("RoundLabModel", "given", "[I", true)
  | 26 => ("RoundLabModel", "violationRounds", "I", false)
  | 27 => ("RoundLabModel", "traceLength", "I", false)
  | 28 => ("RoundLabModel", "trace", "[I", true)
  | 29 => ("RoundLabModel", "kept", "[I", true)
  | 30 => ("RoundLabModel", "keptMessages", "[I", true)
  | _ => ("RoundLabModel", "keptSets", "[I", true)
abbrev zcl : List vw_C := [("RoundLab", zT0, 4), ("RoundLab$Program", zT1, 9), ("RoundLab$Run", zT2, 5), ("RoundLab$Group", zT3, 8), ("RoundLab$Ears", zT4, 7), ("RoundLab$Search", zT5, 16), ("RoundLabModel", zT6, 32)]
/-- the words that stay as they are while classes are linked; the others (nest mates) are carried apart -/
def ztb : List Cond := lw_tbl.filter goodWord
def znest : Cond → Bool
  | .fieldLinkNest _ _ _ _ _ _ => true
  | .methodLinkNest _ _ _ _ => true
  | .castable _ _ => true
  | .declares _ => true
  | _ => false
/-- pairs of the three exceptions of which one is not the other -/
def zNp : List (String × String) := [("java/lang/IllegalArgumentException", "java/lang/IllegalStateException"), ("java/lang/IllegalArgumentException", "java/util/NoSuchElementException"), ("java/lang/IllegalStateException", "java/lang/IllegalArgumentException"), ("java/lang/IllegalStateException", "java/util/NoSuchElementException"), ("java/util/NoSuchElementException", "java/lang/IllegalArgumentException"), ("java/util/NoSuchElementException", "java/lang/IllegalStateException")]
def zNw (U : State) : Prop := (∀ w ∈ lw_tbl, znest w = true → va_Nw w U) ∧ (∀ k tx, Cond.stringRef "RoundLab" k tx ∈ lw_tbl → ∃ a, vk_R "RoundLab" k tx a U) ∧ ∀ q ∈ zNp, ∃ c t, U.vm.findClass q.1 = some c ∧ U.vm.findClass q.2 = some t ∧ U.vm.assignable c t = false
theorem zNw.warm {s U : State} (hW : s.WarmedH U.vm) (h : zNw s) : zNw U := by
  refine ⟨fun w hw hn => ?_, fun k tx hk => ?_, fun q hq => ?_⟩
  · have h1 := h.1 w hw hn
    cases w with
    | fieldLinkNest a i b n d h => exact va_Nw.warmF hW h1
    | methodLinkNest a i x h => exact va_Nw.warmM hW h1
    | castable a b => exact va_Nw.warmC hW h1
    | declares x => exact va_Nw.warmD hW h1
    | _ => simp [znest] at hn
  · obtain ⟨a, ha⟩ := h.2.1 k tx hk
    exact ⟨a, ha.warm hW⟩
  · obtain ⟨c, t, h1, h2, h3⟩ := h.2.2 q hq
    exact ⟨c, t, by rw [hW.alike.findClass]; exact h1, by rw [hW.alike.findClass]; exact h2, by rw [hW.alike.assignable]; exact h3⟩
theorem znest_tab {w : Cond} (hn : znest w = true) : w.onTables = true := by
  cases w with
  | fieldLinkNest a i b n d h => rfl
  | methodLinkNest a i x h => rfl
  | castable a b => rfl
  | declares x => rfl
  | _ => simp [znest] at hn
theorem zNw.same {s U : State} (hv : s.vm = U.vm) (h : zNw s) : zNw U := by
  refine ⟨fun w hw hn => va_Nw.same (znest_tab hn) hv (h.1 w hw hn), fun k tx hk => ?_, fun q hq => ?_⟩
  · obtain ⟨a, ha⟩ := h.2.1 k tx hk
    exact ⟨a, ha.same hv.symm⟩
  · rw [← hv]
    exact h.2.2 q hq
/-- the exception tables of the law's methods that call the class -/
def zXs : List (String × List (Nat × Nat × Nat × Nat)) := [("word", [(0, 9, 12, 13)]), ("builtin", [(0, 9, 12, 18)]), ("deep", [(0, 10, 13, 18), (0, 10, 17, 13)]), ("input", [(0, 10, 13, 18), (0, 10, 17, 27)]), ("start", [(0, 5, 8, 27), (0, 5, 11, 13)]), ("hear", [(0, 10, 13, 18), (0, 10, 17, 27)]), ("round", [(0, 8, 11, 13)]), ("state", [(0, 10, 13, 18)]), ("decided", [(0, 9, 12, 18)]), ("message", [(0, 9, 12, 18)]), ("explore", [(0, 14, 17, 27), (0, 14, 21, 13)]), ("trace", [(0, 9, 12, 18)]), ("at", [(0, 9, 12, 18)]), ("count", [(0, 9, 12, 27)])]
def zxt (M : zM) : List (Nat × Nat × Nat × Nat) := if M.1.cls = "RoundLabLaw" then (zXs.lookup M.1.name).getD [] else []
def zxe (cd : Code) : List (Nat × Nat × Nat × Nat) := cd.exceptionTable.toList.map (fun h => (h.startPc, h.endPc, h.handlerPc, h.catchType))
theorem zxe_nil {cd : Code} (h : cd.exceptionTable.isEmpty = true) : zxe cd = [] := by
  unfold zxe
  rw [Array.isEmpty_iff.mp h]
  rfl
/-- a method's own words -/
def zwo (_ : zM) : List Cond := ztb
def zws (M : zM) : List Cond := .code M.1 M.2.1 M.2.2.1 M.2.2.2 :: ztb
set_option maxRecDepth 100000 in
theorem zcl_all : ∀ r ∈ zcl, ∀ w ∈ u_ws r.1 r.2.1 r.2.2, w ∈ ztb := by decide +kernel
set_option maxRecDepth 100000 in
theorem zcl_tyA : ∀ r ∈ zcl, ∀ k, k < r.2.2 → (parseFieldDescriptor (r.2.1 k).2.2.1).isSome = true := by decide +kernel
set_option maxRecDepth 100000 in
theorem zcl_nmA : ∀ r ∈ zcl, ∀ a, a < r.2.2 → ∀ b, b < r.2.2 → a ≠ b → (r.2.1 a).2.1 ≠ (r.2.1 b).2.1 := by decide +kernel
theorem zcl_in {M : zM} {ci N : Nat} {Cn : String} {T : u_T} (h : zcl[ci]? = some (Cn, T, N)) : ∀ w ∈ u_ws Cn T N, w ∈ zwo M := fun w hw => (zcl_all (Cn, T, N) (List.mem_of_getElem? h) w hw)
def zcl_t (T : u_T) : Nat → FieldType := fun k => (parseFieldDescriptor (T k).2.2.1).getD .int
theorem zcl_ty {ci N : Nat} {Cn : String} {T : u_T} (h : zcl[ci]? = some (Cn, T, N)) : ∀ k, k < N → parseFieldDescriptor (T k).2.2.1 = some (zcl_t T k) := fun k hk => by
  have e := zcl_tyA (Cn, T, N) (List.mem_of_getElem? h) k hk
  unfold zcl_t
  cases q : parseFieldDescriptor (T k).2.2.1 with
  | none =>
    have e' : (parseFieldDescriptor (T k).2.2.1).isSome = true := e
    rw [q] at e'
    cases e'
  | some t => rfl
theorem zcl_nm {ci N : Nat} {Cn : String} {T : u_T} (h : zcl[ci]? = some (Cn, T, N)) : ∀ a, a < N → ∀ b, b < N → a ≠ b → (T a).2.1 ≠ (T b).2.1 := zcl_nmA (Cn, T, N) (List.mem_of_getElem? h)
theorem znar {b : Bool} {v : Int32} (hv : b = false ∨ v = 0 ∨ v = 1) : narrow (bif b then .boolean else .int) (.int v) = .int v := by
  cases b with
  | false => rfl
  | true =>
    rcases hv with h | rfl | rfl
    · cases h
    · rfl
    · rfl
theorem zfit {b : Bool} {v : Int32} (hv : b = false ∨ v = 0 ∨ v = 1) : fits (bif b then .boolean else .int) (.int v) = true := by
  cases b with
  | false => rfl
  | true =>
    rcases hv with h | rfl | rfl
    · cases h
    · decide
    · decide
theorem znarb {v : Int32} (hv : v = 0 ∨ v = 1) : narrow .boolean (.int v) = .int v := by
  rcases hv with rfl | rfl
  · rfl
  · rfl
theorem zcat1 {ad : Nat → Nat} {w : zV} (h : zlong w = false) : (ztv ad w).category = 1 := by
  rcases w with x | x | x
  · rfl
  · cases h
  · rfl
/-! the room of a level; what a method is given, and what it gives -/
abbrev zR : Type := Option zV ⊕ Nat
def zRm (d C S : Nat) : Room := { frames := d + 8, cells := C, slots := S, locals := 200 * (d + 1) }
theorem zRm_f (d C S : Nat) : 1 ≤ (zRm d C S).frames := by show 1 ≤ d + 8; omega
theorem zRm_l {d C S n : Nat} (h : n ≤ 8) : n + 13 ≤ (zRm d C S).locals := by show n + 13 ≤ 200 * (d + 1); omega
theorem zRm_c {d C S n : Nat} (h : n ≤ 8) : n + (nativeFrameWords "java/lang/System" "arraycopy" 5 + 11) ≤ (zRm d C S).locals := by
  have e : nativeFrameWords "java/lang/System" "arraycopy" 5 ≤ 100 := by decide +kernel
  show n + (nativeFrameWords "java/lang/System" "arraycopy" 5 + 11) ≤ 200 * (d + 1)
  omega
def zt1 : List Int32 := [1, 2, 4, 3, 101, 30, 100, 100, 30, 26, 20, 32, 32, 20, 39, 20, 39, 39, 20, 38, 1, 0, 30, 26, 20, 32, 32, 20, 35, 20, 35, 35, 38, 101]
def zt2 : List Int32 := [2, 3, 4, 3, 4, 101, 100, 36, 30, 27, 35, 25, 39, 35, 20, 38, 1, 0, 20, 22, 4, 102, 101, 30, 100, 100, 30, 27, 25, 23, 36, 4, 23, 37, 4, 23, 36, 4, 23, 37, 4, 0, 30, 26, 3, 37, 21, 23, 37, 4, 1, 36, 102]
def zt3 : List Int32 := [4, 5, 4, 3, 15, 4, 1, 20, 22, 4, 102, 101, 100, 101, 102, 30, 27, 25, 31, 34, 26, 32, 20, 35, 35, 20, 24, 37, 4, 1, 0, 104, 103, 100, 30, 41, 34, 21, 41, 34, 1, 101, 30, 41, 34, 20, 33, 1, 102, 103, 104, 25, 102, 20, 33, 1, 100, 101, 102, 103, 27, 27, 25, 31, 34, 103, 26, 32, 20, 40, 1, 40, 1, 30, 104, 103, 0, 30, 100, 100, 41, 34, 101, 102, 0, 0]
/-- a static of Throwable that holds a reference: what its making asks of it, and that it stays -/
def zTs (n dd : String) (A : Nat → Prop) (U : State) (H : Heap) : Prop := ∃ (c : ClassId) (k : Class) (i : Nat) (f : Field) (a : Nat) (cell : Cell) (u : Value), U.vm.findClass "java/lang/Throwable" = some c ∧ U.fieldFound? "java/lang/Throwable" n dd = some (c, k, i, f) ∧ f.isStatic = true ∧ k.statics = some a ∧ k.staticTypes[f.slot]? = some f.type ∧ H[a]? = some cell ∧ cell.vm.isStatics = true ∧ cell.cls = c ∧ f.slot < cell.slots.size ∧ u.isRef = true ∧ cell.slots[f.slot]? = some u ∧ ¬ A a
theorem zTs.moved {n dd : String} {A : Nat → Prop} {u U : State} {H : Heap} (hvm : u.vm.Alike U.vm) (h : zTs n dd A u H) : zTs n dd A U H := by
  obtain ⟨c, k, i, f, a, cell, v, h0, h1, h2, h3, h4, h5⟩ := h
  obtain ⟨k', hi', he⟩ := State.fieldFound?_setVm hvm h1
  exact ⟨c, k', i, f, a, cell, v, by rw [hvm.findClass]; exact h0, hi', h2, by rw [he]; exact h3, by rw [he]; exact h4, h5⟩
theorem zTs.kept {n dd : String} {A : Nat → Prop} {U : State} {H H1 : Heap} (h : zTs n dd A U H) (hq : ∀ a : Nat, a < H.size → ¬ A a → H1[a]? = H[a]?) : zTs n dd A U H1 := by
  obtain ⟨c, k, i, f, a, cell, v, h0, h1, h2, h3, h4, h5, h6, h7, h8, h9, h10, h11⟩ := h
  exact ⟨c, k, i, f, a, cell, v, h0, h1, h2, h3, h4, by rw [hq a (Array.getElem?_eq_some_iff.mp h5).1 h11]; exact h5, h6, h7, h8, h9, h10, h11⟩
theorem zTs.narrow {n dd : String} {A B : Nat → Prop} {U : State} {H : Heap} (h : zTs n dd A U H) (hAB : ∀ q, B q → A q) : zTs n dd B U H := by
  obtain ⟨c, k, i, f, a, cell, v, h0, h1, h2, h3, h4, h5, h6, h7, h8, h9, h10, h11⟩ := h
  exact ⟨c, k, i, f, a, cell, v, h0, h1, h2, h3, h4, h5, h6, h7, h8, h9, h10, fun z => h11 (hAB a z)⟩
theorem zTs.isRef {n dd : String} {A : Nat → Prop} {U : State} {args : Array Value} (h : zTs n dd A U U.heap) : (Cond.isRef (.static "java/lang/Throwable" n dd)).before args U = true := by
  obtain ⟨c, k, i, f, a, cell, v, h0, h1, h2, h3, h4, h5, h6, h7, h8, h9, h10, h11⟩ := h
  cases v <;> first | (simp [Cond.before, Cond.holds, Cond.value, Term.eval, State.fieldNamed?, h1, h2, h3, h5, h6, h10]; done) | cases h9
theorem zTs.lays {n dd : String} {A : Nat → Prop} {U : State} {args : Array Value} (h : zTs n dd A U U.heap) : (Cond.laysStatic "java/lang/Throwable" n dd).before args U = true := by
  obtain ⟨c, k, i, f, a, cell, v, h0, h1, h2, h3, h4, h5, h6, h7, h8, h9, h10, h11⟩ := h
  simp [Cond.before, Cond.holds, Cond.value, h0, h1, h2, h3, h5, h6, h7, h8, h4]
def zStH (ad : Nat → Nat) (sz : Nat) (U : State) (H : Heap) : Prop :=
  (va_Z "RoundLab" "ONE_THIRD_RULE" "[I" (.ref (ad 101)) (zA ad sz) U H ∧ va_T .int (ad 101) zt1.length (fun j => .int (zt1.getD j 0)) (zA ad sz) U H) ∧
  (va_Z "RoundLab" "VOTING" "[I" (.ref (ad 102)) (zA ad sz) U H ∧ va_T .int (ad 102) zt2.length (fun j => .int (zt2.getD j 0)) (zA ad sz) U H) ∧
  (va_Z "RoundLab" "VOTING_WITH_A_LEADER" "[I" (.ref (ad 103)) (zA ad sz) U H ∧ va_T .int (ad 103) zt3.length (fun j => .int (zt3.getD j 0)) (zA ad sz) U H) ∧
  zTs "UNASSIGNED_STACK" Bundle.steD (zA ad sz) U H ∧ zTs "SUPPRESSED_SENTINEL" Bundle.listD (zA ad sz) U H
theorem zStH.next {ad : Nat → Nat} {sz : Nat} {s U : State} {H : Heap} {locs : List Loc} (h : zStH ad sz s s.heap) (hsz : s.heap.size = sz) (hS : va_S (zA ad sz) s.heap H locs) (hvm : s.vm.Alike U.vm) : zStH ad H.size U H := by
  have hm := zA_mono (ad := ad) (a := sz) (b := H.size) (by rw [← hsz]; exact hS.1)
  obtain ⟨h1, h2, h3, h4, h5⟩ := h
  exact ⟨⟨((h1.1.kept hS.2.1).narrow hm).moved hvm, ((h1.2.kept hS.2.1).narrow hm).moved hvm⟩, ⟨((h2.1.kept hS.2.1).narrow hm).moved hvm, ((h2.2.kept hS.2.1).narrow hm).moved hvm⟩, ⟨((h3.1.kept hS.2.1).narrow hm).moved hvm, ((h3.2.kept hS.2.1).narrow hm).moved hvm⟩, ((h4.kept hS.2.1).narrow hm).moved hvm, ((h5.kept hS.2.1).narrow hm).moved hvm⟩
theorem zStH.moved {ad : Nat → Nat} {sz : Nat} {s U : State} {H : Heap} (h : zStH ad sz s H) (hvm : s.vm.Alike U.vm) : zStH ad sz U H := by
  obtain ⟨h1, h2, h3, h4, h5⟩ := h
  exact ⟨⟨h1.1.moved hvm, h1.2.moved hvm⟩, ⟨h2.1.moved hvm, h2.2.moved hvm⟩, ⟨h3.1.moved hvm, h3.2.moved hvm⟩, h4.moved hvm, h5.moved hvm⟩
abbrev zty (cI cL : ClassId) : List (ClassId × FieldType) := [(cI, .int), (cL, .long)]
def zPc (D : va_G) (ad : Nat → Nat) (cI cL : ClassId) (sz : Nat) (args : List zV) (h : zH) : Array Value → State → Prop := fun v U =>
  v = (args.map (ztv ad)).toArray ∧ U.heap.size = sz ∧ va_P D zcl (zW ad cI cL h) U.heap ∧ va_K D zcl (zty cI cL) U ∧ zStH ad sz U U.heap ∧ zNw U
theorem zPc_blind {D : va_G} {ad : Nat → Nat} {cI cL : ClassId} {sz : Nat} {args : List zV} {h : zH} : FrameBlind (zPc D ad cI cL sz args h) := fun a U g mk q => by
  obtain ⟨q0, q1, qP, qK, qS, qN⟩ := q
  exact ⟨q0, q1, qP, va_K.moved (u := U) (U := U.calling g mk a) (Vm.Alike.refl U.vm) qK, zStH.moved (s := U) (U := U.calling g mk a) qS (Vm.Alike.refl U.vm), zNw.same (s := U) (U := U.calling g mk a) rfl qN⟩
def zQ (D : va_G) (ad : Nat → Nat) (cI cL : ClassId) (sz : Nat) (K : zR → zH → Prop) : Array Value → State → Outcome → State → Prop := fun _ st oc t =>
  (∃ (r : Option zV) (h' : zH), oc = .returned (r.map (ztv ad)) ∧ K (.inl r) h' ∧ va_P D zcl (zW ad cI cL h') t.heap ∧ va_K D zcl (zty cI cL) t) ∧ va_F (zA ad sz) st t
def zex : Nat → String
  | 0 => "java/lang/IllegalStateException"
  | 1 => "java/util/NoSuchElementException"
  | _ => "java/lang/IllegalArgumentException"
/-- how a method ends that throws -/
def zTend (D : va_G) (ad : Nat → Nat) (cI cL : ClassId) (sz : Nat) (K : zR → zH → Prop) (C S : Nat) (st : State) (oc : Outcome) (t : State) : Prop :=
  ∃ (x : Addr) (X : Nat) (h' : zH) (Lc : List Loc) (cell : Cell), oc = .threw x ∧ K (.inr X) h' ∧ (va_P D zcl (zW ad cI cL h') t.heap ∧ va_K D zcl (zty cI cL) t) ∧ va_F (zA ad sz) st t ∧
    (st.heap.size ≤ x ∧ t.heap[x]? = some cell ∧ cell.vm = .none ∧ t.vm.findClass (zex X) = some cell.cls) ∧ st.WarmedH t.vm ∧ st.sameButNew ({ t with vm := st.vm } : State) Lc C S ∧ ∀ q ∈ Lc, zA ad sz q.base
def zFlag (l : Launch) : Prop := ∀ e : Env, l.admits e → e.platform.stackTraces = false
/-- a spec of a method that returns, and of one that throws -/
def zSP (d C S : Nat) (M : zM) (args : List zV) (h : zH) (K : zR → zH → Prop) : Prop :=
  ∀ (l : Launch) (D : va_G) (ad : Nat → Nat) (cI cL : ClassId) (sz : Nat), zInj ad → zFlag l → Met l M.1 (zws M) (zRm d C S) (zPc D ad cI cL sz args h) (zQ D ad cI cL sz K) C S (zA ad sz)
def zTP (d C S : Nat) (M : zM) (args : List zV) (h : zH) (K : zR → zH → Prop) : Prop :=
  ∀ (l : Launch) (D : va_G) (ad : Nat → Nat) (cI cL : ClassId) (sz : Nat), zInj ad → zFlag l → MetFree l M.1 (headSpec (zws M) (zRm d C S)) (zPc D ad cI cL sz args h) (fun _ _ _ _ _ => True) (fun _ st o t => zTend D ad cI cL sz K C S st o t)
/-- where a walk stands -/
def zC (l : Launch) (D : va_G) (ad : Nat → Nat) (cI cL : ClassId) (M : zM) (sz : Nat) (p : Program) (s : State) (m : MethodId) (args : Array Value) (meth : Method) (cd : Code) : Prop :=
  p.tables.exec = Jvm.exec ∧ cd.code = M.2.1 ∧ cd.maxLocals = M.2.2.1 ∧ s.vm.findClass M.1.cls = some m.cls ∧ (∀ w ∈ ztb, w.before args s = true) ∧ meth.sig.returnType = M.2.2.2 ∧ meth.locks = false ∧
    va_K D zcl (zty cI cL) s ∧ s.heap.size = sz ∧ zInj ad ∧ zStH ad sz s s.heap ∧ zxe cd = zxt M ∧ zFlag l ∧ zNw s
section ZC
variable {l : Launch} {D : va_G} {ad : Nat → Nat} {cI cL : ClassId} {M : zM} {sz : Nat} {p : Program} {s : State} {m : MethodId} {args : Array Value} {meth : Method} {cd : Code}
theorem zC.own (h : zC l D ad cI cL M sz p s m args meth cd) : s.vm.findClass M.1.cls = some m.cls := h.2.2.2.1
theorem zC.words (h : zC l D ad cI cL M sz p s m args meth cd) : ∀ w ∈ zwo M, w.before args s = true := h.2.2.2.2.1
theorem zC.word (h : zC l D ad cI cL M sz p s m args meth cd) {w : Cond} (hw : w ∈ ztb) : w.before args s = true := h.2.2.2.2.1 w hw
theorem zC.ret (h : zC l D ad cI cL M sz p s m args meth cd) : meth.sig.returnType = M.2.2.2 := h.2.2.2.2.2.1
theorem zC.locks (h : zC l D ad cI cL M sz p s m args meth cd) : meth.locks = false := h.2.2.2.2.2.2.1
theorem zC.K (h : zC l D ad cI cL M sz p s m args meth cd) : va_K D zcl (zty cI cL) s := h.2.2.2.2.2.2.2.1
theorem zC.hsz (h : zC l D ad cI cL M sz p s m args meth cd) : s.heap.size = sz := h.2.2.2.2.2.2.2.2.1
theorem zC.inj (h : zC l D ad cI cL M sz p s m args meth cd) : zInj ad := h.2.2.2.2.2.2.2.2.2.1
theorem zC.stat (h : zC l D ad cI cL M sz p s m args meth cd) : zStH ad sz s s.heap := h.2.2.2.2.2.2.2.2.2.2.1
theorem zC.exc (h : zC l D ad cI cL M sz p s m args meth cd) : zxe cd = zxt M := h.2.2.2.2.2.2.2.2.2.2.2.1
theorem zC.flag (h : zC l D ad cI cL M sz p s m args meth cd) : zFlag l := h.2.2.2.2.2.2.2.2.2.2.2.2.1
theorem zC.nw (h : zC l D ad cI cL M sz p s m args meth cd) : zNw s := h.2.2.2.2.2.2.2.2.2.2.2.2.2
theorem zC.nest (h : zC l D ad cI cL M sz p s m args meth cd) {w : Cond} (hw : w ∈ lw_tbl) (hn : znest w = true) : w.before args s = true := va_Nw.use (znest_tab hn) (h.nw.1 w hw hn)
end ZC
def zQx (t : Bool) (D : va_G) (ad : Nat → Nat) (cI cL : ClassId) (sz : Nat) (K : zR → zH → Prop) (C S : Nat) (below : List Frame) (args : Array Value) (s : State) : State → Prop := match t with
  | false => MQ below (zQ D ad cI cL sz K) args s C S (zA ad sz)
  | true => fun u => ∃ o, u.status = .running ∧ Ended u below o ∧ zTend D ad cI cL sz K C S s o u
/-- THE MACHINE's CLAIM at a pure state: from every machine state that shows it, the method comes to its end, and the end is as K says; t: by a throw -/
def zMC (t : Bool) (d nc ns C S : Nat) (M : zM) (K : zR → zH → Prop) (pc : Nat) (L : List (Option zV)) (st : List zV) (h : zH) : Prop :=
  nc ≤ C → ns ≤ S → ∀ (l : Launch) (D : va_G) (ad : Nat → Nat) (cI cL : ClassId) (sz : Nat) (p : Program) (e : Env) (s : State) (m : MethodId) (args : Array Value) (below : List Frame) (meth : Method) (cd : Code),
    zC l D ad cI cL M sz p s m args meth cd → ∀ (H : Heap) (locs : List Loc) (ls : Array Slot), va_P D zcl (zW ad cI cL h) H → va_S (zA ad sz) s.heap H locs → zlok ad ls L →
      W p l e (zRm d C S) s m args below meth cd H locs nc ns (zQx t D ad cI cL sz K C S below args s) (F0 m pc ls (st.map (ztv ad)))
/-- a method's spec out of its walk -/
theorem zmet {d C S : Nat} {M : zM} {args : List zV} {h : zH} {K : zR → zH → Prop} (hp : plainName M.1.cls = true) (hn : (zlay args).length ≤ M.2.2.1) (body : zMC false d 0 0 C S M K 0 (zent args M.2.2.1) [] h) (hx : zxt M = [] := by decide +kernel) : zSP d C S M args h K := by
  intro l D ad cI cL sz hi hf
  refine Met.ofW (cc := M.2.1) (maxL := M.2.2.1) (ret := M.2.2.2) hp rfl ?_
  intro p e s m a below meth c s₁ B hml hv
  obtain ⟨rfl, hsz, hP, hK, hSt, hNw⟩ := hv
  have hts := atoms_spec (ws := zws M) B.pre
  rw [lg_entry_eq]
  exact body (Nat.zero_le _) (Nat.zero_le _) l D ad cI cL sz p e s m _ below meth c ⟨B.exec, B.bytes, hml, findClass_of_methodNamed B.named, fun w hw => hts w (List.mem_cons_of_mem _ hw), B.returns, B.notSynchronized, hK, hsz, hi, hSt, (zxe_nil (B.noHandlers (hts _ List.mem_cons_self))).trans hx.symm, hf, hNw⟩ s.heap [] _ hP va_S.rf (zent_ok hn)
theorem ztmet {d C S : Nat} {M : zM} {args : List zV} {h : zH} {K : zR → zH → Prop} (hp : plainName M.1.cls = true) (hn : (zlay args).length ≤ M.2.2.1) (body : zMC true d 0 0 C S M K 0 (zent args M.2.2.1) [] h) (hx : zxt M = [] := by decide +kernel) : zTP d C S M args h K := by
  intro l D ad cI cL sz hi hf
  refine MetFree.of_bodyS (code := M.2.1) (maxLocals := M.2.2.1) (ret := M.2.2.2) hp ?_ ?_
  · intro args s m h hn
    obtain ⟨meth, c, h1, h2, h3, h4, h5, h6, -, -⟩ := Cond.code_spec hn (atoms_spec (ws := zws M) h _ List.mem_cons_self)
    exact ⟨meth, c, h1, h2, h3, h4, h5, h6⟩
  · intro p e s m a below meth c s₁ B hml hv _
    obtain ⟨rfl, hsz, hP, hK, hSt, hNw⟩ := hv
    have hh0 : s₁.heap = s.heap := by rw [B.state]; rfl
    have hts := atoms_spec (ws := zws M) B.pre
    have key := body (Nat.zero_le _) (Nat.zero_le _) l D ad cI cL sz p e s m (args.map (ztv ad)).toArray below meth c ⟨B.exec, B.bytes, hml, findClass_of_methodNamed B.named, fun w hw => hts w (List.mem_cons_of_mem _ hw), B.returns, B.notSynchronized, hK, hsz, hi, hSt, (zxe_nil (B.noHandlers (hts _ List.mem_cons_self))).trans hx.symm, hf, hNw⟩ s.heap [] _ hP va_S.rf (zent_ok hn)
    rw [List.map_nil, ← lg_entry_eq] at key
    obtain ⟨t, a1, o, b1, b2, b3⟩ := key s₁ hh0 (Stand.of_body B)
    exact ⟨t, o, a1, b1, b2, b3⟩
