/-! constructors: rows over a list of cells that grows -/
def zKc (D : va_G) (cI cL : ClassId) (M : zM) (p : Program) (s : State) (m : MethodId) (args : Array Value) (cd : Code) : Prop :=
  p.tables.exec = Jvm.exec ∧ cd.code = M.2.1 ∧ cd.maxLocals = M.2.2.1 ∧ s.vm.findClass M.1.cls = some m.cls ∧ (∀ w ∈ ztb, w.before args s = true) ∧ va_K D zcl (zty cI cL) s ∧ zNw s
theorem zmO1 : Cond.instanceMethod Lib.objectInit ∈ ztb := by decide +kernel
theorem zmO2 : Cond.code Lib.objectInit ⟨#[0xb1]⟩ 1 none ∈ ztb := by decide +kernel
theorem zmAi : Cond.arrayClass .int ∈ ztb := by decide +kernel
theorem zmAl : Cond.arrayClass .long ∈ ztb := by decide +kernel
section ZK
variable {D : va_G} {cI cL : ClassId} {M M' : zM} {p : Program} {l : Launch} {e : Env} {R : Room} {s : State} {m : MethodId} {args : Array Value} {below : List Frame} {meth : Method} {cd : Code} {H : Heap} {locs : List Loc} {nc ns : Nat} {Q : State → Prop} {pc : Nat} {ls : Array Slot} {rest : List Value} {A : Nat → Prop} {ws : va_W} {a : Nat}
theorem k_obj (hC : zKc D cI cL M p s m args cd) {idx : Nat} (hl : Cond.methodLink M.1.cls idx Lib.objectInit ∈ ztb) (hd : decode M.2.1 pc = .ok (.invokespecial idx, 3)) (hsz : ls.size = M.2.2.1) (hf : 1 ≤ R.frames) (hw : (rest.map fun v => v.category).sum + 12 ≤ R.locals)
    (kk : W p l e R s m args below meth cd H locs nc ns Q (F0 m (pc + 3) ls rest)) : W p l e R s m args below meth cd H locs nc ns Q (F0 m pc ls (.ref a :: rest)) :=
  W.objInit hC.1 hC.2.1 hC.2.2.2.1 (hC.2.2.2.2.1 _ hl) (hC.2.2.2.2.1 _ zmO1) (hC.2.2.2.2.1 _ zmO2) rfl (hsz.trans hC.2.2.1.symm) rfl hd hf (by show 2 * 0 + _ + 12 ≤ _; omega) kk
theorem k_arrI (hC : zKc D cI cL M p s m args cd) (hP : va_P D zcl ws H) (hD : va_D A ws) (hS : va_S A s.heap H locs) (hA : ∀ q, s.heap.size ≤ q → A q) {n : Int32} {N' : Nat} (hn : ¬ n < 0) (hN : n.toNatClampNeg = N') (hb4 : N' ≤ 1000) (hcells : nc + 1 ≤ R.cells) (hslots : ns + N' ≤ R.slots) (hdg : decode M.2.1 pc = .ok (.newarray .int, 2))
    (kk : ∀ (q : Nat) (H1 : Heap), va_P D zcl (ws ++ [(q, .inl (cI, N', .inl (fun _ => 0)))]) H1 → va_D A (ws ++ [(q, .inl (cI, N', .inl (fun _ => 0)))]) → va_S A s.heap H1 locs → s.heap.size ≤ q → W p l e R s m args below meth cd H1 locs (nc + 1) (ns + N') Q (F0 m (pc + 2) ls (.ref q :: rest))) : W p l e R s m args below meth cd H locs nc ns Q (F0 m pc ls (.int n :: rest)) := by
  refine va_newaK hC.1 hC.2.1 (atype := .int) (hC.2.2.2.2.1 _ zmAi) rfl hdg rfl hn hN (by show N' * 4 ≤ _; omega) hcells hslots rfl fun H1 cA e1 z1 o1 hAr hNm => ?_
  have hca : cA = cI := Option.some.inj (hNm.symm.trans (hC.2.2.2.2.2.1.2 0 (cI, .int) rfl).2)
  subst hca
  have hk : ∀ (k : Nat) (x : Nat × va_E), ws[k]? = some x → H1[x.1]? = H[x.1]? := fun k x hx => o1 x.1 ((hP k x hx).lt)
  refine kk H.size H1 ((hP.kept hk).app (fun k x hx => ?_)) (hD.push hP rfl (hA _ hS.1)) ⟨Nat.le_trans hS.1 (by omega), fun x h1 h2 => (o1 x (Nat.lt_of_lt_of_le h1 hS.1)).trans (hS.2.1 x h1 h2), hS.2.2⟩ hS.1
  have hz : k < 1 := (List.getElem?_eq_some_iff.mp hx).1
  rw [show k = 0 by omega] at hx
  cases hx
  exact e1
theorem k_arrJ (hC : zKc D cI cL M p s m args cd) (hP : va_P D zcl ws H) (hD : va_D A ws) (hS : va_S A s.heap H locs) (hA : ∀ q, s.heap.size ≤ q → A q) {n : Int32} {N' : Nat} (hn : ¬ n < 0) (hN : n.toNatClampNeg = N') (hb4 : N' ≤ 1000) (hcells : nc + 1 ≤ R.cells) (hslots : ns + N' ≤ R.slots) (hdg : decode M.2.1 pc = .ok (.newarray .long, 2))
    (kk : ∀ (q : Nat) (H1 : Heap), va_P D zcl (ws ++ [(q, .inl (cL, N', .inr (.inl (fun _ => 0))))]) H1 → va_D A (ws ++ [(q, .inl (cL, N', .inr (.inl (fun _ => 0))))]) → va_S A s.heap H1 locs → s.heap.size ≤ q → W p l e R s m args below meth cd H1 locs (nc + 1) (ns + N') Q (F0 m (pc + 2) ls (.ref q :: rest))) : W p l e R s m args below meth cd H locs nc ns Q (F0 m pc ls (.int n :: rest)) := by
  refine va_newaK hC.1 hC.2.1 (atype := .long) (hC.2.2.2.2.1 _ zmAl) rfl hdg rfl hn hN (by show N' * 8 ≤ _; omega) hcells hslots rfl fun H1 cA e1 z1 o1 hAr hNm => ?_
  have hca : cA = cL := Option.some.inj (hNm.symm.trans (hC.2.2.2.2.2.1.2 1 (cL, .long) rfl).2)
  subst hca
  have hk : ∀ (k : Nat) (x : Nat × va_E), ws[k]? = some x → H1[x.1]? = H[x.1]? := fun k x hx => o1 x.1 ((hP k x hx).lt)
  refine kk H.size H1 ((hP.kept hk).app (fun k x hx => ?_)) (hD.push hP rfl (hA _ hS.1)) ⟨Nat.le_trans hS.1 (by omega), fun x h1 h2 => (o1 x (Nat.lt_of_lt_of_le h1 hS.1)).trans (hS.2.1 x h1 h2), hS.2.2⟩ hS.1
  have hz : k < 1 := (List.getElem?_eq_some_iff.mp hx).1
  rw [show k = 0 by omega] at hx
  cases hx
  exact e1
theorem k_new (hC : zKc D cI cL M p s m args cd) (hP : va_P D zcl ws H) (hD : va_D A ws) (hS : va_S A s.heap H locs) (hA : ∀ q, s.heap.size ≤ q → A q) {Cn : String} {T : u_T} {N ci idx : Nat} {fs : List Value} (hc : zcl[ci]? = some (Cn, T, N)) (hcl : Cond.classLink M.1.cls idx Cn ∈ ztb) (hins : Cond.instantiable Cn N ∈ ztb) (hini : Cond.initialized Cn ∈ ztb)
    (hfs : ∀ j, j < N → defaultValue (zcl_t T j) = vp_V fs j) (hcells : nc + 1 ≤ R.cells) (hslots : ns + N ≤ R.slots) (hdg : decode M.2.1 pc = .ok (.new idx, 3))
    (kk : ∀ (q : Nat) (H1 : Heap), va_P D zcl (ws ++ [(q, .inr (ci, fs))]) H1 → va_D A (ws ++ [(q, .inr (ci, fs))]) → va_S A s.heap H1 locs → A q → W p l e R s m args below meth cd H1 locs (nc + 1) (ns + N) Q (F0 m (pc + 3) ls (.ref q :: rest))) : W p l e R s m args below meth cd H locs nc ns Q (F0 m pc ls rest) :=
  va_new (ci := ci) hC.1 hC.2.1 hC.2.2.2.2.1 (zcl_all _ (List.mem_of_getElem? hc)) (zcl_t T) (zcl_ty hc) hC.2.2.2.1 (hC.2.2.2.2.1 _ hcl) (hC.2.2.2.2.1 _ hins) (hC.2.2.2.2.1 _ hini) hC.2.2.2.2.2.1 hP hD hS hA hc hfs hcells hslots hdg
    (fun q H1 h1 h2 h3 => kk q H1 h1 h2 h3 (h2.2 ws.length (q, .inr (ci, fs)) (by simp)))
theorem k_putF (hC : zKc D cI cL M p s m args cd) (hin : meth.name = "<init>") (hP : va_P D zcl ws H) (hD : va_D A ws) (hS : va_S A s.heap H locs) {T : u_T} {N ci idx : Nat} {fs : List Value} (q0 : Nat) (he : ws[q0]? = some (a, .inr (ci, fs))) (hc : zcl[ci]? = some (M.1.cls, T, N)) (k : Nat) (hk : k < N) (hl : Cond.fieldLink M.1.cls idx M.1.cls (T k).2.1 (T k).2.2.1 ∈ ztb) (hfin : (T k).2.2.2 = true) (hdecl : (T k).1 = M.1.cls) {v : Value} (hn : narrow (zcl_t T k) v = v) (hfit : fits (zcl_t T k) v = true) (hlen : k < fs.length) (hdg : decode M.2.1 pc = .ok (.putfield idx, 3))
    (kk : ∀ (H1 : Heap) (locs1 : List Loc), va_P D zcl (ws.set q0 (a, .inr (ci, fs.set k v))) H1 → va_D A (ws.set q0 (a, .inr (ci, fs.set k v))) → va_S A s.heap H1 locs1 → W p l e R s m args below meth cd H1 locs1 nc ns Q (F0 m (pc + 3) ls rest)) : W p l e R s m args below meth cd H locs nc ns Q (F0 m pc ls (v :: .ref a :: rest)) :=
  va_putF (own := M.1.cls) (ref := M.1.cls) hC.1 hC.2.1 hC.2.2.2.2.1 (zcl_all _ (List.mem_of_getElem? hc)) (zcl_t T) (zcl_ty hc) (zcl_nm hc) hC.2.2.2.1 hC.2.2.2.2.2.1 hP hD hS q0 he hc k hk (hC.2.2.2.2.1 _ hl) (fun x h => by rw [hdecl] at h; exact h) hfin hin hdecl (zcl_ty hc k hk) hn hfit hlen hdg kk
theorem k_put (hC : zKc D cI cL M p s m args cd) (hP : va_P D zcl ws H) (hD : va_D A ws) (hS : va_S A s.heap H locs) {T : u_T} {N ci idx : Nat} {fs : List Value} (q0 : Nat) (he : ws[q0]? = some (a, .inr (ci, fs))) (hc : zcl[ci]? = some (M.1.cls, T, N)) (k : Nat) (hk : k < N) (hl : Cond.fieldLink M.1.cls idx M.1.cls (T k).2.1 (T k).2.2.1 ∈ ztb) (hfin : (T k).2.2.2 = false) (hdecl : (T k).1 = M.1.cls) {v : Value} (hn : narrow (zcl_t T k) v = v) (hfit : fits (zcl_t T k) v = true) (hlen : k < fs.length) (hdg : decode M.2.1 pc = .ok (.putfield idx, 3))
    (kk : ∀ (H1 : Heap) (locs1 : List Loc), va_P D zcl (ws.set q0 (a, .inr (ci, fs.set k v))) H1 → va_D A (ws.set q0 (a, .inr (ci, fs.set k v))) → va_S A s.heap H1 locs1 → W p l e R s m args below meth cd H1 locs1 nc ns Q (F0 m (pc + 3) ls rest)) : W p l e R s m args below meth cd H locs nc ns Q (F0 m pc ls (v :: .ref a :: rest)) :=
  va_put (own := M.1.cls) (ref := M.1.cls) hC.1 hC.2.1 hC.2.2.2.2.1 (zcl_all _ (List.mem_of_getElem? hc)) (zcl_t T) (zcl_ty hc) (zcl_nm hc) hC.2.2.2.1 hC.2.2.2.2.2.1 hP hD hS q0 he hc k hk (hC.2.2.2.2.1 _ hl) (fun x h => by rw [hdecl] at h; exact h) hfin (zcl_ty hc k hk) hn hfit hlen hdg kk
theorem k_get (hC : zKc D cI cL M p s m args cd) (hP : va_P D zcl ws H) {T : u_T} {N ci idx : Nat} {fs : List Value} (q0 : Nat) (he : ws[q0]? = some (a, .inr (ci, fs))) (hc : zcl[ci]? = some (M.1.cls, T, N)) (k : Nat) (hk : k < N) (hl : Cond.fieldLink M.1.cls idx M.1.cls (T k).2.1 (T k).2.2.1 ∈ ztb) (hdecl : (T k).1 = M.1.cls) {v : Value} (hv : fs[k]? = some v) (hdg : decode M.2.1 pc = .ok (.getfield idx, 3))
    (kk : W p l e R s m args below meth cd H locs nc ns Q (F0 m (pc + 3) ls (v :: rest))) : W p l e R s m args below meth cd H locs nc ns Q (F0 m pc ls (.ref a :: rest)) :=
  va_get (own := M.1.cls) (ref := M.1.cls) hC.1 hC.2.1 hC.2.2.2.2.1 (zcl_all _ (List.mem_of_getElem? hc)) hC.2.2.2.1 hC.2.2.2.2.2.1 hP q0 he hc k hk (hC.2.2.2.2.1 _ hl) (fun x h => by rw [hdecl] at h; exact h) hv hdg kk
/-- what a constructor is given, and what it leaves: the cells behind it, by the addresses of the new ones -/
def zPk (D : va_G) (cI cL : ClassId) (sz : Nat) (vs : List Value) (w0 : va_W) : Array Value → State → Prop := fun v U => v = vs.toArray ∧ U.heap.size = sz ∧ va_P D zcl w0 U.heap ∧ va_K D zcl (zty cI cL) U ∧ va_D (fun _ => True) w0 ∧ zNw U
theorem zPk_blind {sz : Nat} {vs : List Value} {w0 : va_W} : FrameBlind (zPk D cI cL sz vs w0) := fun a U g mk q => by
  obtain ⟨q0, q1, qP, qK, qD, qN⟩ := q
  exact ⟨q0, q1, qP, va_K.moved (u := U) (U := U.calling g mk a) (Vm.Alike.refl U.vm) qK, qD, zNw.same (s := U) (U := U.calling g mk a) rfl qN⟩
def zQk (D : va_G) (w0 : va_W) (sz n : Nat) (w1 : List Nat → va_W) : Array Value → State → Outcome → State → Prop := fun _ st oc t => (∃ as : List Nat, oc = .returned none ∧ as.length = n ∧ va_P D zcl (w1 as) t.heap ∧ va_D (va_A w0 sz) (w1 as)) ∧ va_F (va_A w0 sz) st t
def zKP (d C S : Nat) (M : zM) (h0 : Nat) (ex : List Value) (e0 : va_E) (n : Nat) (w1 : ClassId → ClassId → List Nat → va_W) : Prop :=
  ∀ (l : Launch) (D : va_G) (cI cL : ClassId) (sz : Nat), Met l M.1 (zws M) (zRm d C S) (zPk D cI cL sz (.ref h0 :: ex) [(h0, e0)]) (zQk D [(h0, e0)] sz n (w1 cI cL)) C S (va_A [(h0, e0)] sz)
theorem k_run {K' : va_W} {n mc ms h1 : Nat} {w1 : List Nat → va_W} {e1 : va_E} {wr : va_W} {a0 : Array Value} {st0 : List Value} (hr : va_Run p l e R s m args below meth cd H locs nc ns mc ms (F0 m pc ls st0) rest (zQk D [(h1, e1)] H.size n w1 a0) (va_A [(h1, e1)] H.size)) (hP : va_P D zcl ws H) (hD : va_D A ws) (hS : va_S A s.heap H locs) (hA : ∀ q, s.heap.size ≤ q → A q) (i : Nat) (he : ws[i]? = some (h1, e1)) (isR : List Nat) (hR : isR.map (fun i => ws[i]?) = wr.map some) (hnd : va_nd isR = true) (hdis : ∀ j ∈ isR, j ∉ [i])
    (kk : ∀ (as : List Nat) (H1 : Heap) (locs1 : List Loc), as.length = n → va_P D zcl (wr ++ w1 as) H1 → va_D A (wr ++ w1 as) → va_S A s.heap H1 locs1 → W p l e R s m args below meth cd H1 locs1 (nc + mc) (ns + ms) Q (F0 m (pc + 3) ls rest)) : W p l e R s m args below meth cd H locs nc ns Q (F0 m pc ls st0) := by
  have hCm : [i].map (fun i => ws[i]?) = [(h1, e1)].map some := by simp [he]
  have hF := va_free (wc := [(h1, e1)]) hD hS hA [i] hCm
  intro T hT X
  obtain ⟨v, st₀, t, T', L, h0, X', hL, t1, t2, ⟨⟨as, hv, hn, hp, hd⟩, hz, hkp⟩, stp⟩ := hr T hT X
  cases hv
  rw [h0] at hz hkp
  obtain ⟨hP1, hD1⟩ := va_join (wr := wr) (w1 := w1 as) (H1 := T'.heap) hP hD [i] isR hCm hR hnd hdis (fun q h2 h3 => by rw [t1]; exact hkp q h2 h3) hF (by rw [t1]; exact hp) hd
  obtain ⟨t3, a1, b1⟩ := kk as T'.heap (locs ++ L) hn hP1 hD1 ⟨Nat.le_trans hS.1 (by rw [t1]; exact hz), fun q h2 h3 => by
      rw [t1, hkp q (Nat.lt_of_lt_of_le h2 hS.1) (fun z => h3 (hF q z))]
      exact hS.2.1 q h2 h3, fun q hq => by
      rcases List.mem_append.mp hq with h | h
      · exact hS.2.2 q h
      · exact hF _ (hL q h)⟩ T' rfl X'
  exact ⟨t3, stp t3 a1, b1⟩
def zOkI (M' : zM) (n : Nat) : Prop := Cond.code M'.1 M'.2.1 M'.2.2.1 none ∈ ztb ∧ M'.2.2.2 = none ∧ (M'.1.cls ≠ "java/lang/invoke/MethodHandle" ∧ M'.1.cls ≠ "java/lang/invoke/VarHandle" ∧ (parseMethodDescriptor M'.1.desc).map (fun d => d.parameters.length) = some n) ∧ M'.2.2.1 ≤ 180 ∧ Cond.initialized M'.1.cls ∈ ztb ∧ Cond.instanceMethod M'.1 ∈ ztb ∧ M'.1.name = "<init>"
end ZK
