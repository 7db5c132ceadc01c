section ZH2
variable {l : Launch} {D : va_G} {ad : Nat → Nat} {cI cL : ClassId} {M M' : zM} {sz : Nat} {p : Program} {e : Env} {R : Room} {s U : State} {m : MethodId} {args : Array Value} {below : List Frame} {meth : Method} {cd : Code} {locs : List Loc} {nc ns : Nat} {d C S n C' S' : Nat} {As : List zV} {h : zH} {K K' : zR → zH → Prop} {g : JFrame}
theorem zNp_in {X Y : Nat} (hX : X < 3) (hY : Y < 3) (hne : Y ≠ X) : (zex X, zex Y) ∈ zNp := by
  match X, Y, hX, hY, hne with
  | 0, 1, _, _, _ => decide
  | 0, 2, _, _, _ => decide
  | 1, 0, _, _, _ => decide
  | 1, 2, _, _, _ => decide
  | 2, 0, _, _, _ => decide
  | 2, 1, _, _, _ => decide
  | 0, 0, _, _, hn => exact absurd rfl hn
  | 1, 1, _, _, hn => exact absurd rfl hn
  | 2, 2, _, _, hn => exact absurd rfl hn
theorem zlC {Y : Nat} (hY : Y < 3) : Cond.classLink "RoundLabLaw" (zct Y) (zex Y) ∈ ztb := by
  match Y, hY with
  | 0, _ => exact zlC0
  | 1, _ => exact zlC1
  | 2, _ => exact zlC2
theorem zlK {Y : Nat} (hY : Y < 3) : Cond.castable (zex Y) (zex Y) ∈ lw_tbl := by
  match Y, hY with
  | 0, _ => exact zlK0
  | 1, _ => exact zlK1
  | 2, _ => exact zlK2
theorem zC.links (hC : zC l D ad cI cL M sz p s m args meth cd) (hcls : M.1.cls = "RoundLabLaw") (hpl : e.platform.magicAccessors = ({} : Platform).magicAccessors) {X : Nat} (hX : X < 3) {k0 : ClassId} (hk : s.vm.findClass (zex X) = some k0) : ∀ Y, Y < 3 → ∃ c, s.vm.ClassLinks e.platform m.cls (zct Y) c ∧ s.vm.assignable k0 c = decide (Y = X) := by
  intro Y hY
  have hown : s.vm.findClass "RoundLabLaw" = some m.cls := by rw [← hcls]; exact hC.own
  obtain ⟨c, hc, hcl⟩ := Cond.classLink_spec hown (hC.word (zlC hY)) e.platform hpl
  refine ⟨c, hcl, ?_⟩
  by_cases hYX : Y = X
  · subst hYX
    obtain ⟨c1, t1, f1, f2, f3⟩ := Cond.castable_spec (hC.nest (zlK hY) rfl)
    cases hk.symm.trans f1
    cases hc.symm.trans f2
    rw [f3]
    simp
  · obtain ⟨c1, t1, f1, f2, f3⟩ := hC.nw.2.2 _ (zNp_in hX hY hYX)
    cases hk.symm.trans f1
    cases hc.symm.trans f2
    rw [f3]
    simp [hYX]
theorem zcaught (hC : zC l D ad cI cL M sz p s m args meth cd) (hcls : M.1.cls = "RoundLabLaw") (X0 : Stand p l e R s m args below meth cd U locs nc ns) (hg : g.method = m) {x : Addr} {cell : Cell} (hcell : U.heap[x]? = some cell) (hvm : cell.vm = .none) {X q : Nat} (hX3 : X < 3) (hk : s.vm.findClass (zex X) = some cell.cls) (hfind : zfind X g.pc (zxt M) = some q) :
    ∃ vm', Stand p l e R s m args below meth cd (U.setVm vm') locs nc ns ∧ ∀ target, Steps p.tables e below ((U.setVm vm').setTop { g with pc := q, stack := [.ref x] }) target → Steps p.tables e below ((U.setTop g).pushFrame (.throwing x)) target := by
  have hpl : e.platform.magicAccessors = ({} : Platform).magicAccessors := by rw [X0.admits.platform]
  have hL := hC.links hcls hpl hX3 hk
  have hk0 : ∃ k, s.vm.classes[cell.cls]? = some k := by
    obtain ⟨c, hcl, hasg⟩ := hL X hX3
    obtain ⟨dk, _, _, kt, hd, _, _, _, _, hkt, _, hop⟩ := hcl.here
    exact Vm.classAt_of_assignable (by rw [hasg]; simp) ⟨kt, hkt⟩
  subst hg
  rw [← hC.exc] at hfind
  obtain ⟨vm', hW', hq⟩ := zgoes (f := g) (a := x) (s := s) (e := e) hX3 (fun k => by rw [hvm]; exact fun z => by cases z) hk0 hL cd.exceptionTable.toList q ((U.setTop g).pushFrame (.throwing x)) hfind X0.warmed hcell
  refine ⟨vm', X0.noted hW', fun target hrest => ?_⟩
  have hh := X0.here
  have hme : ((U.setTop g).pushFrame (.throwing x)).vm.method? g.method = some meth := X0.method'
  obtain ⟨hgo, hw⟩ := hh.throwing x
  refine Steps.head hgo hw ?_
  rw [stepThread_throwing (frames_entered hh.top _)]
  have hst : (stepThrowing e ((U.setTop g).pushFrame (.throwing x)) x (.java g :: U.frames.tail)).1 = (((U.setTop g).pushFrame (.throwing x)).setVm vm').setFrames (.java { g with pc := q, stack := [.ref x] } :: U.frames.tail) := by
    simp only [stepThrowing, searchFrame, vmDo]
    generalize hr : Sem.go _ e false [] _ = res
    obtain ⟨as, rfl, ha⟩ := Sem.eq_ok_of hr (a := Handler.found q) (s' := ((U.setTop g).pushFrame (.throwing x)).setVm vm') (acts' := []) (by simp [Jvm.W.findHandler_eq hme X0.code, hq])
    rfl
  rw [hst]
  obtain ⟨g₀, hfr⟩ := X0.frames_eq
  have hr' : (U.setVm vm').frames = .java g₀ :: below := hfr
  have h1 : ((U.setTop g).pushFrame (.throwing x)).setVm vm' = (((U.setVm vm').setTop g).pushFrame (.throwing x)) := rfl
  rw [State.setTop_of_frames _ hr'] at hrest
  rw [h1, State.pushFrame, State.setFrames_setFrames, State.setTop_of_frames _ hr', State.setFrames_setFrames, X0.tail]
  exact hrest
/-- a call that throws, and it is caught: an astore, and on -/
def zAst (M : zM) (q w : Nat) (nL : Nat) : Prop := (∃ (n : Fin 4), decode M.2.1 q = .ok (.astore_n n, 1) ∧ w = 1 ∧ (n : Nat) < nL) ∨ ∃ i, decode M.2.1 q = .ok (.astore i, 2) ∧ w = 2 ∧ i < nL
variable {pc : Nat} {L : List (Option zV)} {st : List zV} {t : Bool}
theorem r_catchV {idx q ci N : Nat} {ks : List (Bool ⊕ Nat)} {Tt : u_T} (hcls : M.1.cls = "RoundLabLaw") (hd : decode M.2.1 pc = .ok (.invokevirtual idx, 3)) (hl0 : Cond.methodLink M.1.cls idx M'.1 ∈ ztb) (hO : zOkV M' n) (hq : zS[q]? = some (.inr (ci, ks))) (hcl : zcl[ci]? = some (M'.1.cls, Tt, N)) (hn : As.length = n) (hw : zwt st ≤ 8) (hsz : L.length = M.2.2.1) (hsp : zTP d C' S' M' (.inr (.inr q) :: As) h K') (hc : nc + C' ≤ C) (hs : ns + S' ≤ S)
    (k : ∀ X h', K' (.inr X) h' → X < 3 ∧ ∃ hp w, zfind X pc (zxt M) = some hp ∧ zAst M hp w L.length ∧ zMC t (d + 1) (nc + C') (ns + S') C S M K (hp + w) (List.replicate L.length none) [] h') : zMC t (d + 1) nc ns C S M K pc L (As.reverse ++ .inr (.inr q) :: st) h := by
  intro c1 c2 l D ad cI cL sz p e s m args below meth cd hC H locs ls hP hS hl T hT X
  subst hT
  obtain ⟨x, X', h', U, Lc, cell, XU, hk, hP', hS', hx1, hx2, hx3, hx4, stp⟩ := zthrV (g := F0 m pc ls ((As.reverse ++ .inr (.inr q) :: st).map (ztv ad))) hC X hS hP hsp hO hl0 hq hcl hn rfl (by rw [hC.2.2.1, ← hsz]; exact hl.1) rfl (by rw [hC.2.1]; exact hd) rfl hw (by show d + 8 + 1 ≤ d + 1 + 8; omega) (by show 200 + 200 * (d + 1) ≤ 200 * (d + 1 + 1); omega) hc hs
  obtain ⟨hX3, hp, w, hf, ha, kk⟩ := k X' h' hk
  obtain ⟨vm', XV, st2⟩ := zcaught (g := F0 m pc ls (st.map (ztv ad))) hC hcls XU rfl hx2 hx3 hX3 hx4 hf
  have key : W p l e (zRm (d + 1) C S) s m args below meth cd U.heap (locs ++ Lc) (nc + C') (ns + S') (zQx t D ad cI cL sz K C S below args s) (F0 m hp ls [.ref x]) := by
    have hz : ∀ ls' : Array Slot, ls'.size = L.length → lv_wf ls' → zlok ad ls' (List.replicate L.length none) := fun ls' e1 e2 => ⟨by rw [e1, List.length_replicate], e2, fun i v hv => by
      rw [List.getElem?_replicate] at hv
      split at hv <;> simp at hv⟩
    rcases ha with ⟨i, hd1, rfl, hi⟩ | ⟨i, hd1, rfl, hi⟩
    · exact lv_astore_n (rest := []) hC.1 hC.2.1 hd1 rfl (zprs_has hl) hi rfl (fun ls' h9 => kk hc hs l D ad cI cL sz p e s m args below meth cd hC U.heap (locs ++ Lc) ls' hP' hS' (hz ls' h9.1 h9.2.1))
    · exact lv_astore (rest := []) hC.1 hC.2.1 hd1 (zprs_has hl) hi rfl (fun ls' h9 => kk hc hs l D ad cI cL sz p e s m args below meth cd hC U.heap (locs ++ Lc) ls' hP' hS' (hz ls' h9.1 h9.2.1))
  obtain ⟨tt, a1, b1⟩ := key (U.setVm vm') rfl XV
  exact ⟨tt, stp.trans (st2 _ a1), b1⟩
/-- a method with an exception table that comes back -/
def zwsW (M : zM) : List Cond := .codeWith M.1 M.2.1 M.2.2.1 M.2.2.2 (zxt M) :: ztb
def zSW (d C S : Nat) (M : zM) (args : List zV) (h : zH) (K : zR → zH → Prop) : Prop :=
  ∀ (l : Launch) (D : va_G) (ad : Nat → Nat) (cI cL : ClassId) (sz : Nat), zInj ad → zFlag l → Met l M.1 (zwsW M) (zRm d C S) (zPc D ad cI cL sz args h) (zQ D ad cI cL sz K) C S (zA ad sz)
theorem zmetW {args : List zV} (hp : plainName M.1.cls = true) (hn : (zlay args).length ≤ M.2.2.1) (body : zMC false d 0 0 C S M K 0 (zent args M.2.2.1) [] h) : zSW d C S M args h K := by
  intro l D ad cI cL sz hi hf
  refine va_MetW (cc := M.2.1) (maxL := M.2.2.1) (ret := M.2.2.2) (hh := zxt M) hp rfl ?_
  intro p e s m a below meth c s₁ B hml hv
  obtain ⟨rfl, hsz, hP, hK, hSt, hNw⟩ := hv
  have hts := atoms_spec (ws := zwsW M) B.pre
  obtain ⟨m9, meth9, c9, hn9, h1, h2, h3, h4, hx, h5, h6, -⟩ := Cond.codeWith_spec (hts _ List.mem_cons_self)
  cases B.named.symm.trans hn9
  cases B.method.symm.trans h1
  cases (Stand.of_body B).code.symm.trans h2
  rw [lg_entry_eq]
  exact body (Nat.zero_le _) (Nat.zero_le _) l D ad cI cL sz p e s m _ below meth c ⟨B.exec, B.bytes, hml, findClass_of_methodNamed B.named, fun w hw => hts w (List.mem_cons_of_mem _ hw), B.returns, B.notSynchronized, hK, hsz, hi, hSt, hx, hf, hNw⟩ s.heap [] _ hP va_S.rf (zent_ok hn)
end ZH2
