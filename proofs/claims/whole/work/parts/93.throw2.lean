theorem zAtm {l : Launch} {D : va_G} {ad : Nat → Nat} {cI cL : ClassId} {M : zM} {sz : Nat} {p : Program} {s : State} {m : MethodId} {args : Array Value} {meth : Method} {cd : Code} (hC : zC l D ad cI cL M sz p s m args meth cd) {X : Nat} (hX : zAtB X = true) : ∀ w ∈ zatoms X, w.before args s = true := by
  intro w hw
  have h := List.all_eq_true.mp hX w hw
  simp only [Bool.or_eq_true, Bool.and_eq_true, decide_eq_true_eq] at h
  obtain ⟨h4, h5⟩ := hC.stat.2.2.2
  rw [← hC.hsz] at h4 h5
  rcases h with ((((h | ⟨h1, h2⟩) | h) | h) | h) | h
  · exact hC.word h
  · exact hC.nest h1 h2
  · rw [h]; exact h4.isRef
  · rw [h]; exact h5.isRef
  · rw [h]; exact h4.lays
  · rw [h]; exact h5.lays
/-- what the heap keeps, when only new cells were made -/
theorem zgrown {U0 U : State} {c n : Nat} (h : U0.sameButNew ({ U with vm := U0.vm } : State) [] c n) : ∀ a : Nat, a < U0.heap.size → U.heap[a]? = U0.heap[a]? := by
  intro a ha
  have h1 : U0.heap[a]? = some U0.heap[a] := Array.getElem?_eq_getElem ha
  rw [h1]
  exact zsame_old h h1
theorem zold {D : va_G} {ad : Nat → Nat} {cI cL : ClassId} {h : zH} {H H1 : Heap} (hP : va_P D zcl (zW ad cI cL h) H) (hg : ∀ a : Nat, a < H.size → H1[a]? = H[a]?) : va_P D zcl (zW ad cI cL h) H1 := by
  refine hP.kept fun k q hk => hg _ ?_
  have h1 := hP k q hk
  exact h1.lt
section ZT2
variable {d nc ns C S : Nat} {M : zM} {K : zR → zH → Prop} {pc : Nat} {L : List (Option zV)} {h : zH}
/-- new E(text), thrown -/
theorem r_throw {X i k : Nat} {tx : String} (hcls : M.1.cls = "RoundLab") (hx : zxt M = []) (hX : zAtB X = true) (hX3 : X < 3)
    (hd0 : decode M.2.1 pc = .ok (.new i, 3)) (hd3 : decode M.2.1 (pc + 3) = .ok (.dup, 1)) (hd4 : decode M.2.1 (pc + 4) = .ok (.ldc k, 2)) (hd6 : decode M.2.1 (pc + 6) = .ok (.invokespecial (zIc X), 3)) (hd9 : decode M.2.1 (pc + 9) = .ok (.athrow, 1))
    (hl0 : Cond.classLink "RoundLab" i (zex X) ∈ ztb) (hi0 : Cond.instantiable (zex X) 6 ∈ ztb) (hi : Cond.initialized (zex X) ∈ ztb) (hs : Cond.stringRef "RoundLab" k tx ∈ lw_tbl) (hsz : L.length = M.2.2.1) (hc : nc + 1 ≤ C) (hn : ns + 6 ≤ S) (hK : K (.inr X) h) : zMC true d nc ns C S M K pc L [] h := by
  intro c1 c2 l D ad cI cL sz p e s m args below meth cd hC H locs ls hP hS hl T hT X0
  subst hT
  have X1 := zrebase X0 (C' := 1) (S' := 6) hc hn
  have hC1 := hC.re X0 hS
  have htr := hC.flag e X0.admits
  have hown1 : (T.setFrames (.invoking m args :: below)).vm.findClass "RoundLab" = some m.cls := by rw [← hcls]; exact hC1.own
  obtain ⟨sa, hZ⟩ := hC1.nw.2.1 k tx hs
  have hb : cd.code = M.2.1 := hC.2.1
  have hlocks := hC.locks
  obtain ⟨vm₁, cX, kX, hfX, hkX, -, -, X2, st1⟩ := X1.newCold hC.1 (own := "RoundLab") (C := zex X) (index := i) (n := 6) hown1 (hC1.word hl0) (hC1.word hi0) (hC1.word hi)
    (g := F0 m pc ls []) rfl (by rw [hb]; exact hd0) (by show 0 + 1 ≤ 1; omega) (by show 0 + 6 ≤ 6; omega)
  generalize hT : (T.setVm vm₁).pushCell { cls := cX, slots := kX.instanceTypes.map defaultValue, vm := .none } = T1 at X2 st1
  have hcellA : T1.heap[T.heap.size]? = some (freshCell cX kX) := by rw [← hT]; exact State.heap_pushCell_size _ _
  have hlsz : ls.size = cd.maxLocals := by rw [hC.2.2.1, ← hsz]; exact hl.1
  have hnoh : ∀ x ∈ cd.exceptionTable.toList, covers x (pc + 6 + 3) = false := by
    have e1 := hC.exc
    rw [hx] at e1
    have e2 := List.map_eq_nil_iff.mp e1
    rw [e2]
    intro x hx
    cases hx
  obtain ⟨U, hsteps, hrun, hend, hW, hsame, ce, hce, hceC, hceV⟩ := zctor X2 hC.1 htr hX3 hown1 (zAtm hC1 hX) hfX hkX hcellA (Nat.le_refl _) (msg := .ref sa) rfl
    (g := F0 m (pc + 6) ls [.ref sa, .ref T.heap.size, .ref T.heap.size]) rfl hlsz rfl rfl rfl
    (by rw [hb]; exact hd6) (by rw [hb]; exact hd9) hnoh (by show 5 < d + 8; omega) (by show 2 * 0 + 1 + 81 ≤ 200 * (d + 1); omega) hlocks
  have hgr := zgrown hsame
  have hgr' : ∀ a : Nat, a < T.heap.size → U.heap[a]? = T.heap[a]? := hgr
  have hWU : s.WarmedH U.vm := State.WarmedH.trans X0.warmed hW
  refine ⟨U, ?_, .threw T.heap.size, hrun, hend, T.heap.size, X, h, locs, ce, rfl, hK, ⟨zold hP hgr', va_K.moved hWU.alike hC.K⟩, ⟨?_, ?_⟩, ⟨hS.1, hce, hceV, ?_⟩, hWU, ?_, hS.2.2⟩
  · refine st1 _ ?_
    show Steps p.tables e below (T1.setTop (F0 m (pc + 3) ls [.ref T.heap.size])) _
    jvm_step X2.here [X2.here.top, hC.1, hb, hd3, Value.category]
    exact X2.ldcString hC.1 (own := "RoundLab") (text := tx) (index := k) (a := sa) hown1 hZ.1 hZ.2 (g := F0 m (pc + 4) ls [.ref T.heap.size, .ref T.heap.size]) rfl (by rw [hb]; exact hd4) _ hsteps
  · have h1 : (T.setFrames (.invoking m args :: below)).heap.size ≤ U.heap.size := hsame.2.1
    exact Nat.le_trans hS.1 h1
  · intro q h1 h2
    rw [hgr' q (Nat.lt_of_lt_of_le h1 hS.1)]
    exact hS.2.1 q h1 h2
  · rw [hW.alike.findClass, hceC]
    exact hfX
  · have A := X0.same.setFrames (.invoking m args :: below) X0.cur
    have B := hsame.setVm s.vm
    exact (A.trans B).weaken (fun x hx _ => by simpa using hx) hc hn
end ZT2
