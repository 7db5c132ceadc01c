section ZT4
variable {l : Launch} {D : va_G} {ad : Nat → Nat} {cI cL : ClassId} {M M' : zM} {sz : Nat} {p : Program} {e : Env} {R : Room} {s T : State} {m : MethodId} {args : Array Value} {below : List Frame} {meth : Method} {cd : Code} {locs : List Loc} {nc ns : Nat} {d C S n C' S' : Nat} {As : List zV} {h : zH} {K K' : zR → zH → Prop} {g : JFrame}
theorem zleave {S0 : State} (hC : zC l D ad cI cL M sz p s m args meth cd) (hx : zxt M = []) (hg : g.method = m) (hlk : g.locked = none) (hen : g.entered = []) (hth : zThr l D ad cI cL sz p e R s m args below meth cd locs nc ns C' S' K' g S0) (hc : nc + C' ≤ C) (hs : ns + S' ≤ S) (k : ∀ X h', K' (.inr X) h' → K (.inr X) h') : ∃ t, Steps p.tables e below S0 t ∧ zQx true D ad cI cL sz K C S below args s t := by
  obtain ⟨x, X', h', U, Lc, cell, XU, hk, hP, hS, hx1, hx2, hx3, hx4, st⟩ := hth
  have hnoh : ∀ x ∈ cd.exceptionTable.toList, covers x g.pc = false := by
    have e1 := hC.exc
    rw [hx] at e1
    have e2 := List.map_eq_nil_iff.mp e1
    rw [e2]
    intro x hx
    cases hx
  obtain ⟨st2, hrun, hend, hW, hsame⟩ := XU.leaveThrown x (g := g) hg hlk hen hnoh hC.locks
  refine ⟨_, st.trans st2, .threw x, hrun, hend, x, X', h', locs ++ Lc, cell, rfl, k _ _ hk, ⟨hP, va_K.moved XU.warmed.alike hC.K⟩, hS.F rfl, ⟨hx1, hx2, hx3, ?_⟩, hW, hsame.weaken (fun x hx _ => hx) hc hs, hS.2.2⟩
  show U.vm.findClass _ = _
  rw [XU.warmed.alike.findClass]
  exact hx4
variable {pc : Nat} {L : List (Option zV)} {st : List zV}
/-- a call that throws, and nothing here catches it -/
theorem r_tcallV {idx q ci N : Nat} {ks : List (Bool ⊕ Nat)} {Tt : u_T} (hx : zxt M = []) (hd : decode M.2.1 pc = .ok (.invokevirtual idx, 3)) (hl0 : Cond.methodLink M.1.cls idx M'.1 ∈ ztb) (hO : zOkV M' n) (hq : zS[q]? = some (.inr (ci, ks))) (hcl : zcl[ci]? = some (M'.1.cls, Tt, N)) (hn : As.length = n) (hw : zwt st ≤ 8) (hsz : L.length = M.2.2.1) (hsp : zTP d C' S' M' (.inr (.inr q) :: As) h K') (hc : nc + C' ≤ C) (hs : ns + S' ≤ S) (k : ∀ X h', K' (.inr X) h' → K (.inr X) h') : zMC true (d + 1) nc ns C S M K pc L (As.reverse ++ .inr (.inr q) :: st) h := by
  intro c1 c2 l D ad cI cL sz p e s m args below meth cd hC H locs ls hP hS hl T hT X
  subst hT
  exact zleave (g := { F0 m pc ls ((As.reverse ++ .inr (.inr q) :: st).map (ztv ad)) with stack := st.map (ztv ad) }) hC hx rfl rfl rfl (zthrV (g := F0 m pc ls ((As.reverse ++ .inr (.inr q) :: st).map (ztv ad))) hC X hS hP hsp hO hl0 hq hcl hn rfl (by rw [hC.2.2.1, ← hsz]; exact hl.1) rfl (by rw [hC.2.1]; exact hd) rfl hw (by show d + 8 + 1 ≤ d + 1 + 8; omega) (by show 200 + 200 * (d + 1) ≤ 200 * (d + 1 + 1); omega) hc hs) hc hs k
theorem r_tcallS {idx : Nat} (hx : zxt M = []) (hd : decode M.2.1 pc = .ok (.invokestatic idx, 3)) (hl0 : Cond.methodLink M.1.cls idx M'.1 ∈ ztb) (hO : zOkS M' n) (hn : As.length = n) (hw : zwt st ≤ 8) (hsz : L.length = M.2.2.1) (hsp : zTP d C' S' M' As h K') (hc : nc + C' ≤ C) (hs : ns + S' ≤ S) (k : ∀ X h', K' (.inr X) h' → K (.inr X) h') : zMC true (d + 1) nc ns C S M K pc L (As.reverse ++ st) h := by
  intro c1 c2 l D ad cI cL sz p e s m args below meth cd hC H locs ls hP hS hl T hT X
  subst hT
  exact zleave (g := { F0 m pc ls ((As.reverse ++ st).map (ztv ad)) with stack := st.map (ztv ad) }) hC hx rfl rfl rfl (zthrS (g := F0 m pc ls ((As.reverse ++ st).map (ztv ad))) hC X hS hP hsp hO hl0 hn rfl (by rw [hC.2.2.1, ← hsz]; exact hl.1) rfl (by rw [hC.2.1]; exact hd) rfl hw (by show d + 8 + 1 ≤ d + 1 + 8; omega) (by show 200 + 200 * (d + 1) ≤ 200 * (d + 1 + 1); omega) hc hs) hc hs k
end ZT4
