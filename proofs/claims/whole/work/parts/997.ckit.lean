section ZK2
variable {D : va_G} {cI cL : ClassId} {M M' : zM} {p : Program} {l : Launch} {e : Env} {R : Room} {s : State} {m : MethodId} {args : Array Value} {below : List Frame} {meth : Method} {cd : Code} {H : Heap} {locs : List Loc} {nc ns : Nat} {Q : State → Prop} {pc : Nat} {ls : Array Slot} {rest : List Value} {A : Nat → Prop} {ws : va_W} {d C' S' n k h1 idx : Nat} {ex : List Value} {e1 : va_E} {w1 : ClassId → ClassId → List Nat → va_W} {wr : va_W}
theorem k_pre (hC : zKc D cI cL M p s m args cd) (hP : va_P D zcl ws H) (hD : va_D A ws) (i : Nat) (he : ws[i]? = some (h1, e1)) : PreS s H (zPk D cI cL H.size (.ref h1 :: ex) [(h1, e1)]) (.ref h1 :: ex) := by
  have hPc := hP.sub (ws' := [(h1, e1)]) [i] (by simp [he])
  have hDc := hD.sub (ws' := [(h1, e1)]) [i] rfl (by simp [he])
  exact ⟨zPk_blind, fun U hU hW => ⟨rfl, by rw [hU], by rw [hU]; exact hPc, va_K.moved hW.alike hC.2.2.2.2.2.1, hDc.weaken (fun _ _ _ _ => trivial), hC.2.2.2.2.2.2.warm hW⟩⟩
theorem k_callI (hC : zKc D cI cL M p s m args cd) (hP : va_P D zcl ws H) (hD : va_D A ws) (hS : va_S A s.heap H locs) (hA : ∀ q, s.heap.size ≤ q → A q) (hO : zOkI M' n) (hl0 : Cond.methodLink M.1.cls idx M'.1 ∈ ztb) (hsp : zKP d C' S' M' h1 ex e1 k w1) (hn : ex.length = n) (i : Nat) (he : ws[i]? = some (h1, e1)) (isR : List Nat) (hR : isR.map (fun i => ws[i]?) = wr.map some) (hnd : va_nd isR = true) (hdis : ∀ j ∈ isR, j ∉ [i])
    (hw : (rest.map fun v => v.category).sum ≤ 8) (hsz : ls.size = M.2.2.1) (hd : decode M.2.1 pc = .ok (.invokespecial idx, 3)) (hRf : d + 8 + 1 ≤ R.frames) (hRl : 200 + 200 * (d + 1) ≤ R.locals) (hc : nc + C' ≤ R.cells) (hs : ns + S' ≤ R.slots)
    (kk : ∀ (as : List Nat) (H1 : Heap) (locs1 : List Loc), as.length = k → va_P D zcl (wr ++ w1 cI cL as) H1 → va_D A (wr ++ w1 cI cL as) → va_S A s.heap H1 locs1 → W p l e R s m args below meth cd H1 locs1 (nc + C') (ns + S') Q (F0 m (pc + 3) ls rest)) : W p l e R s m args below meth cd H locs nc ns Q (F0 m pc ls (ex.reverse ++ .ref h1 :: rest)) := by
  have hl180 := hO.2.2.2.1
  have hcd : Cond.code M'.1 M'.2.1 M'.2.2.1 M'.2.2.2 ∈ ztb := by rw [hO.2.1]; exact hO.1
  refine k_run (K' := []) (va_runI (As := ex) (rest := rest) (nL := ls.size) (Ts := zwo M) (own := M.1.cls) ⟨hC.1, hC.2.1, hC.2.2.1.trans hsz.symm, hC.2.2.2.1, hC.2.2.2.2.1⟩ (hsp l D cI cL H.size) (cwI (bytes := M'.2.1) (maxL := M'.2.2.1) n hC.2.2.2.2.1 (zgood0 (M := M) hcd) (by unfold zws; rw [hO.2.1]) rfl rfl (hC.2.2.2.2.1 _ hO.2.2.2.2.1) (hC.2.2.2.2.1 _ hl0) (hC.2.2.2.2.1 _ hO.2.2.2.2.2.1) hO.2.2.2.2.2.2 hO.2.2.1 ⟨hRf, by show 8 + (M'.2.2.1 + 11) + 200 * (d + 1) ≤ R.locals; omega⟩) (k_pre hC hP hD i he) rfl hn rfl rfl (lv_room hw) hd ⟨hc, hs⟩) hP hD hS hA i he isR hR hnd hdis kk
theorem k_callN (hC : zKc D cI cL M p s m args cd) (hP : va_P D zcl ws H) (hD : va_D A ws) (hS : va_S A s.heap H locs) (hA : ∀ q, s.heap.size ≤ q → A q) (hO : zOkI M' n) {host : String} (hl0 : Cond.methodLinkNest M.1.cls idx M'.1 host ∈ lw_tbl) (hsp : zKP d C' S' M' h1 ex e1 k w1) (hn : ex.length = n) (i : Nat) (he : ws[i]? = some (h1, e1)) (isR : List Nat) (hR : isR.map (fun i => ws[i]?) = wr.map some) (hnd : va_nd isR = true) (hdis : ∀ j ∈ isR, j ∉ [i])
    (hw : (rest.map fun v => v.category).sum ≤ 8) (hsz : ls.size = M.2.2.1) (hd : decode M.2.1 pc = .ok (.invokespecial idx, 3)) (hRf : d + 8 + 1 ≤ R.frames) (hRl : 200 + 200 * (d + 1) ≤ R.locals) (hc : nc + C' ≤ R.cells) (hs : ns + S' ≤ R.slots)
    (kk : ∀ (as : List Nat) (H1 : Heap) (locs1 : List Loc), as.length = k → va_P D zcl (wr ++ w1 cI cL as) H1 → va_D A (wr ++ w1 cI cL as) → va_S A s.heap H1 locs1 → W p l e R s m args below meth cd H1 locs1 (nc + C') (ns + S') Q (F0 m (pc + 3) ls rest)) : W p l e R s m args below meth cd H locs nc ns Q (F0 m pc ls (ex.reverse ++ .ref h1 :: rest)) := by
  have hl180 := hO.2.2.2.1
  have hcd : Cond.code M'.1 M'.2.1 M'.2.2.1 M'.2.2.2 ∈ ztb := by rw [hO.2.1]; exact hO.1
  refine k_run (K' := []) (va_runIN (As := ex) (rest := rest) (nL := ls.size) (Ts := zwo M) (own := M.1.cls) (host := host) (bytes := M'.2.1) (maxL := M'.2.2.1) (n := n) ⟨hC.1, hC.2.1, hC.2.2.1.trans hsz.symm, hC.2.2.2.1, hC.2.2.2.2.1⟩ (hsp l D cI cL H.size) ⟨⟨⟨rfl, rfl, hRf, by show 8 + (M'.2.2.1 + 11) + 200 * (d + 1) ≤ R.locals; omega, pay_in (big := zwo M) hC.2.2.2.2.1 (zgood0 (M := M) hcd), by unfold zws; rw [hO.2.1]; exact List.mem_cons_self⟩, hC.2.2.2.2.1 _ hO.1, hC.2.2.2.2.1 _ hO.2.2.2.2.1, ⟨hO.2.2.1.1, hO.2.2.1.2.1⟩, fun sig h => by
    have h2 := hO.2.2.1.2.2
    rw [h] at h2
    exact (Option.some.inj h2).symm, va_Nw.use rfl (hC.2.2.2.2.2.2.1 _ hl0 rfl)⟩, hO.2.2.2.2.2.2, hC.2.2.2.2.1 _ hO.2.2.2.2.2.1⟩ (k_pre hC hP hD i he) rfl hn rfl rfl (lv_room hw) hd ⟨hc, hs⟩) hP hD hS hA i he isR hR hnd hdis kk
/-- a constructor's contract out of its walk -/
theorem zkmet {C S h0 : Nat} {e0 : va_E} (hp : plainName M.1.cls = true) (hr0 : M.2.2.2 = none) (hi0 : M.1.name = "<init>") (hlay : (lg_sl (.ref h0 :: ex)).length ≤ M.2.2.1)
    (body : ∀ (l : Launch) (D : va_G) (cI cL : ClassId) (p : Program) (e : Env) (s : State) (m : MethodId) (below : List Frame) (meth : Method) (cd : Code) (A : Nat → Prop) (ls : Array Slot), zKc D cI cL M p s m (.ref h0 :: ex).toArray cd → meth.name = "<init>" → meth.sig.returnType = none → meth.locks = false → (∀ q, s.heap.size ≤ q → A q) → va_P D zcl [(h0, e0)] s.heap → va_D A [(h0, e0)] → va_S A s.heap s.heap [] → ls = (lg_sl (.ref h0 :: ex) ++ List.replicate (M.2.2.1 - (lg_sl (.ref h0 :: ex)).length) Slot.unset).toArray →
      (∀ (H : Heap) (locs : List Loc) (as : List Nat), as.length = k → va_P D zcl (w1 cI cL as) H → va_D A (w1 cI cL as) → va_S A s.heap H locs → ∀ t : State, t.heap = H → s.WarmedH t.vm → zQk D [(h0, e0)] s.heap.size k (w1 cI cL) (.ref h0 :: ex).toArray s (.returned none) t) →
      W p l e (zRm d C S) s m (.ref h0 :: ex).toArray below meth cd s.heap [] 0 0 (MQ below (zQk D [(h0, e0)] s.heap.size k (w1 cI cL)) (.ref h0 :: ex).toArray s C S A) (F0 m 0 ls [])) : zKP d C S M h0 ex e0 k w1 := by
  intro l D cI cL sz
  refine Met.ofW (cc := M.2.1) (maxL := M.2.2.1) (ret := M.2.2.2) hp rfl ?_
  intro p e s m a below meth c s₁ B hml hv
  obtain ⟨rfl, hsz, hP, hK, hD, hNw⟩ := hv
  subst hsz
  have hts := atoms_spec (ws := zws M) B.pre
  have hin : meth.name = "<init>" := (name_of_methodNamed B.named B.method).1.trans hi0
  rw [lg_entry_eq]
  exact body l D cI cL p e s m below meth c (va_A [(h0, e0)] s.heap.size) _ ⟨B.exec, B.bytes, hml, findClass_of_methodNamed B.named, fun w hw => hts w (List.mem_cons_of_mem _ hw), hK, hNw⟩ hin (B.returns.trans hr0) B.notSynchronized (fun q h => Or.inr h) hP hD.self va_S.rf rfl
    (fun H locs as h1 h2 h3 h4 t ht hW => ⟨⟨as, rfl, h1, by rw [ht]; exact h2, h3⟩, h4.F ht⟩)
end ZK2
