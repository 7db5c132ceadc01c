/-! the law's beginning -/
def zI0 (q : Nat) : Nat → Int32 := if q = 1 then (fun j => match j with
    | 5 => 1
    | 6 => 2
    | 7 => -1
    | _ => 0) else if q = 14 then (fun j => match j with
    | 1 => -1
    | 13 => 1
    | _ => 0) else if q = 27 then (fun j => match j with
    | 26 => -1
    | _ => 0) else fun _ => 0
def zH0 : zH := (zI0, fun _ _ => 0)
theorem zRel0 : zRel zH0 := by
  refine ⟨0, 0, 0, 0, false, by decide, rfl, rfl, rfl, rfl, rfl, fun p hp => ⟨rfl, 0, by decide, rfl⟩, fun i hi => ⟨fGood_nI (k := 0) (by decide), fGood_nI (k := 0) (by decide)⟩, rfl, rfl, by decide, rfl, by decide, fun _ => rfl, fun z => absurd z (by decide), fun z => absurd z (by decide), rfl, rfl, rfl, rfl, by decide, fun j hj => absurd hj (Nat.not_lt_zero j)⟩
/-- a room that is less -/
theorem zroom {p : Program} {l : Launch} {e : Env} {R R' : Room} {s : State} {m : MethodId} {args : Array Value} {below : List Frame} {meth : Method} {c : Code} {H : Heap} {locs : List Loc} {nc ns : Nat} {Q : State → Prop} {g : JFrame} (h1 : R'.frames ≤ R.frames) (h2 : R'.locals ≤ R.locals) (h3 : R'.cells ≤ R.cells) (h4 : R'.slots ≤ R.slots) (k : W p l e R' s m args below meth c H locs nc ns Q g) : W p l e R s m args below meth c H locs nc ns Q g := by
  intro T hT X
  refine k T hT { X with room := ?_ }
  have hr := X.room
  simp only [State.hasRoom, Bool.and_eq_true, decide_eq_true_eq] at hr ⊢
  obtain ⟨⟨⟨⟨r1, r2⟩, r3⟩, r4⟩, r5⟩ := hr
  exact ⟨⟨⟨⟨by omega, by omega, by omega, by omega, by omega, r2.2.2.2.2⟩, by omega⟩, by omega⟩, r5⟩
def lw_Q (_ : Array Value) (s : State) (o : Outcome) (t : State) : Prop := o = .returned (some (.int 1)) ∧ Framed s o t [] 601024 7293034
def lw_Z (below : List Frame) (a : Array Value) (s : State) : State → Prop := fun t => ∃ o, t.status = .running ∧ Ended t below o ∧ lw_Q a s o t
theorem zret1 {p : Program} {l : Launch} {e : Env} {R : Room} {s : State} {m : MethodId} {below : List Frame} {meth : Method} {c : Code} {a : Array Value} (hx : p.tables.exec = Jvm.exec) (hb : c.code = code) (hr : meth.sig.returnType = ret) (hlocks : meth.locks = false) {pc : Nat} {H : Heap} {ls : Array Slot} (hdg : decode code pc = .ok (.ireturn, 1)) : W p l e R s m a below meth c H [] 601024 7293034 (lw_Z below a s) (F0 m pc ls [.int 1]) := by
  intro T hT X
  obtain ⟨fs, hret, hrun, hended, hW, hframe⟩ := X.leave (v := some (.int 1)) (hlocks := hlocks) (fun h => by rw [hr] at h; cases h)
  have hmeth' : T.vm.method? m = some meth := X.method'
  refine ⟨T.setFrames fs, ?_, .returned (some (.int 1)), hrun, hended, rfl, ⟨_, rfl⟩, hW, hframe⟩
  jvm_step X.here [X.here.top, hx, hb, hdg, hmeth', hr, ret, narrow_b1]
  (try refine ⟨rfl, ?_⟩); (try refine ⟨rfl, ?_⟩)
  first | (intro acts; rw [hret _ acts rfl rfl rfl]) | rw [hret _ _ rfl rfl rfl]
  exact Steps.refl _
/-- from the loop's head on: the cells stand, the addresses are apart and new -/
theorem zgoon {p : Program} {l : Launch} {e : Env} {s : State} {m : MethodId} {below : List Frame} {meth : Method} {c : Code} {b N : Nat} {xs : Nat → Int32} {D : va_G} {cI cL : ClassId} {H : Heap} {locs : List Loc} {ls : Array Slot} {ad : Nat → Nat} (hflag : zFlag l) (hN : N ≤ 2560)
    (hx : p.tables.exec = Jvm.exec) (hb : c.code = code) (hr : meth.sig.returnType = ret) (hml : c.maxLocals = 7) (hown : s.vm.findClass "RoundLabLaw" = some m.cls) (hts : ∀ w ∈ lw_tbl, w.before #[Value.ref b] s = true) (hX : va_X b N xs s s.heap) (hbl : b < s.heap.size) (hlocks : meth.locks = false) (hg : ∀ w ∈ zfl, w.before #[Value.ref b] s = true) (hexc : c.exceptionTable.isEmpty = true)
    (hK : va_K D zcl (zty cI cL) s) (hP : va_P D zcl (zW ad cI cL zH0) H) (hD : va_D (fun q => s.heap.size ≤ q) (zW ad cI cL zH0)) (hS : va_S (fun q => s.heap.size ≤ q) s.heap H locs)
    (had : ad 104 = b) (h101 : ∀ A : Nat → Prop, (∀ q, q < s.heap.size → ¬ A q) → va_Z "RoundLab" "ONE_THIRD_RULE" "[I" (.ref (ad 101)) A s s.heap ∧ va_T .int (ad 101) zt1.length (fun j => .int (zt1.getD j 0)) A s s.heap) (h102 : ∀ A : Nat → Prop, (∀ q, q < s.heap.size → ¬ A q) → va_Z "RoundLab" "VOTING" "[I" (.ref (ad 102)) A s s.heap ∧ va_T .int (ad 102) zt2.length (fun j => .int (zt2.getD j 0)) A s s.heap) (h103 : ∀ A : Nat → Prop, (∀ q, q < s.heap.size → ¬ A q) → va_Z "RoundLab" "VOTING_WITH_A_LEADER" "[I" (.ref (ad 103)) A s s.heap ∧ va_T .int (ad 103) zt3.length (fun j => .int (zt3.getD j 0)) A s s.heap)
    (hl : lv_has ls 7 [(4, .int 0), (3, .ref (ad 47)), (2, .ref (ad 27)), (1, .ref (ad 0)), (0, .ref b)]) : W p l e room_1 s m #[Value.ref b] below meth c H locs 48 4997 (lw_Z below #[Value.ref b] s) (F0 m 23 ls []) := by
  have hget : ∀ k, k < 48 → ∃ x, (zW ad cI cL zH0)[k]? = some (ad k, x) := fun k hk => ⟨_, zW_get (List.getElem?_eq_getElem (l := zS) (by rw [zS_len]; exact hk))⟩
  have hnew : ∀ k, k < 48 → s.heap.size ≤ ad k := fun k hk => by
    obtain ⟨x, hx⟩ := hget k hk
    exact hD.2 k _ hx
  have hinj : zInj ad := fun i j hi hj e => by
    obtain ⟨x, hx⟩ := hget i hi
    obtain ⟨y, hy⟩ := hget j hj
    exact hD.1 i j _ _ hx hy e
  have hnA : ∀ q, q < s.heap.size → ¬ zA ad s.heap.size q := fun q hq z => by
    rcases z with ⟨k, hk, rfl⟩ | z
    · exact absurd (hnew k hk) (Nat.not_le.mpr hq)
    · exact absurd z (Nat.not_le.mpr hq)
  have hC : zC l D ad cI cL mZ_law s.heap.size p s m #[Value.ref b] meth c := ⟨hx, hb, hml, hown, fun w hw => hts w (List.mem_filter.mp hw).1, hr, hlocks, hK, rfl, hinj, ⟨h101 _ hnA, h102 _ hnA, h103 _ hnA, ze_ts (hts _ zn_6.1) (hg _ zn_5.1) hnA, ze_ts (hts _ zn_6.2.1) (hg _ zn_5.2) hnA⟩, (zxe_nil hexc).trans (by decide +kernel), hflag, ze_nw hts hg⟩
  have hG : zLc l D ad cI cL s.heap.size p s m #[Value.ref b] meth c b N xs := ⟨hC, hX, hbl, hnA b hbl, had⟩
  have fin : ∀ (nc ns : Nat) (L : List (Option zV)) (h : zH), zMD l D ad cI cL s.heap.size p e s m #[Value.ref b] below meth c (lw_Z below #[Value.ref b] s) 42 601024 7293034 mZ_law nc ns 984 L [] h := by
    intro nc ns L h c1 c2 H locs ls hP hS hl
    refine lv_iconst (v := 1) hx hb (zdk oZ_law_11 25 rfl) (by decide) ?_
    refine W.widen (k := 601024) (n := 7293034) c1 c2 ?_
    refine va_forget (fun q hq => ?_) (zret1 hx hb hr hlocks (zdk oZ_law_11 26 rfl))
    rcases hS.2.2 q hq with ⟨k, hk, e⟩ | z
    · rw [e]
      exact hnew k hk
    · exact z
  have key := zlaw_loop (e := e) (below := below) (Q := lw_Z below #[Value.ref b] s) (C := 601024) (S := 7293034) (c0 := 48) (s0 := 4997) hG hN (by decide) (by decide) fin 513 0 zH0 none none (by omega) (by decide) zRel0
  refine zroom (R' := zRm 42 601024 7293034) (by decide) (by decide) (by decide) (by decide) (key (by decide) (by decide) H locs ls hP ⟨hS.1, fun q h1 h2 => hS.2.1 q h1 (fun z => h2 (Or.inr z)), fun q hq => Or.inr (hS.2.2 q hq)⟩ ⟨hl.1, hl.2.1, fun i v hv => ?_⟩)
  rcases i with _ | _ | _ | _ | _ | _ | _ | i
  · cases hv
    show ls[0]? = some (.val (.ref (ad 104)))
    rw [had]
    exact lv_at hl 4 rfl
  · cases hv
    exact lv_at hl 3 rfl
  · cases hv
    exact lv_at hl 2 rfl
  · cases hv
    exact lv_at hl 1 rfl
  · cases hv
    exact lv_at hl 0 rfl
  · cases hv
  · cases hv
  · cases hv
set_option maxHeartbeats 4000000 in
set_option maxRecDepth 100000 in
theorem zstart {p : Program} {e : Env} {s : State} {m : MethodId} {below : List Frame} {meth : Method} {c : Code} {l : Launch} {b N : Nat} {xs : Nat → Int32} (hflag : zFlag l) (hN : N ≤ 2560)
    (hx : p.tables.exec = Jvm.exec) (hb : c.code = code) (hr : meth.sig.returnType = ret) (hml : c.maxLocals = 7) (hown : s.vm.findClass "RoundLabLaw" = some m.cls) (hts : ∀ w ∈ lw_tbl, w.before #[Value.ref b] s = true) (hX : va_X b N xs s s.heap) (hbl : b < s.heap.size) (hlocks : meth.locks = false) (hgv : (Jvm.Cond.and given_1 narrow_1).before #[Value.ref b] s = true) (hexc : c.exceptionTable.isEmpty = true) :
    W p l e room_1 s m #[Value.ref b] below meth c s.heap [] 0 0 (lw_Z below #[Value.ref b] s) (entryFrame m ([Value.ref b] : List Value).toArray 7) := by
  have hg := flat_of_before _ hgv
  obtain ⟨D, cI, cL, hK⟩ := ze_K (s := s) (args := #[Value.ref b]) (fun w hw => hts w (List.mem_filter.mp hw).1)
  obtain ⟨q1, l1, z1⟩ := ze_arr (T := zt1) (by decide) hts hg zn_1 zn_6.2.2.1
  obtain ⟨q2, l2, z2⟩ := ze_arr (T := zt2) (by decide) hts hg zn_2 zn_6.2.2.2.1
  obtain ⟨q3, l3, z3⟩ := ze_arr (T := zt3) (by decide) hts hg zn_3 zn_6.2.2.2.2.1
  have hC : zKc D cI cL mZ_law p s m #[Value.ref b] c := ⟨hx, hb, hml, hown, fun w hw => hts w (List.mem_filter.mp hw).1, hK, ze_nw hts hg⟩
  have hA : ∀ q, s.heap.size ≤ q → (fun q => s.heap.size ≤ q) q := fun q h => h
  have hl := lv_entry ([.ref b]) (n := 7) (Nat.le_of_ble_eq_true rfl)
  rw [lg_entry_eq]
  generalize (lg_sl ([.ref b]) ++ List.replicate (7 - (lg_sl ([.ref b])).length) Slot.unset).toArray = ls at hl ⊢
  have hl : lv_has ls 7 [(0, .ref b)] := hl
  have hP : va_P D zcl [] s.heap := fun k q h => by cases h
  have hD : va_D (fun q => s.heap.size ≤ q) [] := ⟨fun i j p q h => (by cases h), fun k q h => (by cases h)⟩
  have hS : va_S (fun q => s.heap.size ≤ q) s.heap s.heap [] := va_S.rf
  refine k_new (ci := 0) (fs := [.null, .null, .null, .null]) hC hP hD hS hA rfl (zmem 69 (by decide +kernel) (by decide +kernel)) (zmem 70 (by decide +kernel) (by decide +kernel)) (zmem 51 (by decide +kernel) (by decide +kernel)) (by decide +kernel) (by decide) (by decide) (zdk oZ_law_0 0 rfl) (fun b1 H hP hD hS hqb1 => ?_)
  have hP : va_P D zcl [(b1, .inr (0, [.null, .null, .null, .null]))] H := hP
  have hD : va_D (fun q => s.heap.size ≤ q) [(b1, .inr (0, [.null, .null, .null, .null]))] := hD
  refine W.widen (k := 1) (n := 4) (by omega) (by omega) ?_
  refine lv_dup hC.1 hC.2.1 (zdk oZ_law_0 1 rfl) rfl ?_
  refine k_callI (M' := mL_init) (d := 3) (C' := 26) (S' := 3108) (ex := []) (rest := [.ref b1]) (wr := []) hC hP hD hS hA iL_init lM_Z_62 (spL_init b1) rfl 0 rfl [] rfl (by decide) (by decide) (Nat.le_of_ble_eq_true rfl) hl.1 (zdk oZ_law_0 2 rfl) (by decide) (by decide) (by decide) (by decide) (fun as H locs has hP hD hS => ?_)
  obtain ⟨b2, t0, rfl, e0⟩ := lkS has
  obtain ⟨b3, t1, rfl, e1⟩ := lkS e0
  obtain ⟨b4, t2, rfl, e2⟩ := lkS e1
  obtain ⟨b5, t3, rfl, e3⟩ := lkS e2
  obtain ⟨b6, t4, rfl, e4⟩ := lkS e3
  obtain ⟨b7, t5, rfl, e5⟩ := lkS e4
  obtain ⟨b8, t6, rfl, e6⟩ := lkS e5
  obtain ⟨b9, t7, rfl, e7⟩ := lkS e6
  obtain ⟨b10, t8, rfl, e8⟩ := lkS e7
  obtain ⟨b11, t9, rfl, e9⟩ := lkS e8
  obtain ⟨b12, t10, rfl, e10⟩ := lkS e9
  obtain ⟨b13, t11, rfl, e11⟩ := lkS e10
  obtain ⟨b14, t12, rfl, e12⟩ := lkS e11
  obtain ⟨b15, t13, rfl, e13⟩ := lkS e12
  obtain ⟨b16, t14, rfl, e14⟩ := lkS e13
  obtain ⟨b17, t15, rfl, e15⟩ := lkS e14
  obtain ⟨b18, t16, rfl, e16⟩ := lkS e15
  obtain ⟨b19, t17, rfl, e17⟩ := lkS e16
  obtain ⟨b20, t18, rfl, e18⟩ := lkS e17
  obtain ⟨b21, t19, rfl, e19⟩ := lkS e18
  obtain ⟨b22, t20, rfl, e20⟩ := lkS e19
  obtain ⟨b23, t21, rfl, e21⟩ := lkS e20
  obtain ⟨b24, t22, rfl, e22⟩ := lkS e21
  obtain ⟨b25, t23, rfl, e23⟩ := lkS e22
  obtain ⟨b26, t24, rfl, e24⟩ := lkS e23
  obtain ⟨b27, t25, rfl, e25⟩ := lkS e24
  obtain rfl := lk0 e25
  have hP : va_P D zcl [(b1, .inr (0, [.ref b2, .ref b6, .ref b7, .ref b15])), (b2, .inr (1, [.ref b3, .ref b4, .ref b5, .int 0, .int 0, .int 1, .int 2, .int (-1), .int 0])), (b3, .inl (cI, 400, .inl (fun _ => 0))), (b4, .inl (cI, 25, .inl (fun _ => 0))), (b5, .inl (cI, 24, .inl (fun _ => 0))), (b6, .inl (cI, 7, .inl (fun _ => 0))), (b7, .inr (2, [.ref b10, .ref b8, .int 0, .ref b2, .ref b9])), (b8, .inl (cI, 7, .inl (fun _ => 0))), (b9, .inl (cI, 35, .inl (fun _ => 0))), (b10, .inr (3, [.ref b11, .ref b13, .int 0, .ref b2, .ref b14, .int 0, .int 0, .int 0])), (b11, .inr (4, [.ref b12, .int 0, .int 0, .int 0, .int 0, .int 0, .int 0])), (b12, .inl (cI, 7, .inl (fun _ => 0))), (b13, .inl (cI, 35, .inl (fun _ => 0))), (b14, .inl (cI, 400, .inl (fun _ => 0))), (b15, .inr (5, [.int 0, .int (-1), .int 0, .ref b16, .ref b2, .ref b17, .ref b22, .ref b23, .ref b24, .ref b25, .ref b26, .ref b27, .int 0, .int 1, .int 0, .int 0])), (b16, .inl (cI, 18, .inl (fun _ => 0))), (b17, .inr (3, [.ref b18, .ref b20, .int 0, .ref b2, .ref b21, .int 0, .int 0, .int 0])), (b18, .inr (4, [.ref b19, .int 0, .int 0, .int 0, .int 0, .int 0, .int 0])), (b19, .inl (cI, 7, .inl (fun _ => 0))), (b20, .inl (cI, 35, .inl (fun _ => 0))), (b21, .inl (cI, 400, .inl (fun _ => 0))), (b22, .inl (cL, 200, .inr (.inl (fun _ => 0)))), (b23, .inl (cI, 200, .inl (fun _ => 0))), (b24, .inl (cI, 200, .inl (fun _ => 0))), (b25, .inl (cI, 512, .inl (fun _ => 0))), (b26, .inl (cI, 512, .inl (fun _ => 0))), (b27, .inl (cL, 24, .inr (.inl (fun _ => 0))))] H := hP
  have hD : va_D (fun q => s.heap.size ≤ q) [(b1, .inr (0, [.ref b2, .ref b6, .ref b7, .ref b15])), (b2, .inr (1, [.ref b3, .ref b4, .ref b5, .int 0, .int 0, .int 1, .int 2, .int (-1), .int 0])), (b3, .inl (cI, 400, .inl (fun _ => 0))), (b4, .inl (cI, 25, .inl (fun _ => 0))), (b5, .inl (cI, 24, .inl (fun _ => 0))), (b6, .inl (cI, 7, .inl (fun _ => 0))), (b7, .inr (2, [.ref b10, .ref b8, .int 0, .ref b2, .ref b9])), (b8, .inl (cI, 7, .inl (fun _ => 0))), (b9, .inl (cI, 35, .inl (fun _ => 0))), (b10, .inr (3, [.ref b11, .ref b13, .int 0, .ref b2, .ref b14, .int 0, .int 0, .int 0])), (b11, .inr (4, [.ref b12, .int 0, .int 0, .int 0, .int 0, .int 0, .int 0])), (b12, .inl (cI, 7, .inl (fun _ => 0))), (b13, .inl (cI, 35, .inl (fun _ => 0))), (b14, .inl (cI, 400, .inl (fun _ => 0))), (b15, .inr (5, [.int 0, .int (-1), .int 0, .ref b16, .ref b2, .ref b17, .ref b22, .ref b23, .ref b24, .ref b25, .ref b26, .ref b27, .int 0, .int 1, .int 0, .int 0])), (b16, .inl (cI, 18, .inl (fun _ => 0))), (b17, .inr (3, [.ref b18, .ref b20, .int 0, .ref b2, .ref b21, .int 0, .int 0, .int 0])), (b18, .inr (4, [.ref b19, .int 0, .int 0, .int 0, .int 0, .int 0, .int 0])), (b19, .inl (cI, 7, .inl (fun _ => 0))), (b20, .inl (cI, 35, .inl (fun _ => 0))), (b21, .inl (cI, 400, .inl (fun _ => 0))), (b22, .inl (cL, 200, .inr (.inl (fun _ => 0)))), (b23, .inl (cI, 200, .inl (fun _ => 0))), (b24, .inl (cI, 200, .inl (fun _ => 0))), (b25, .inl (cI, 512, .inl (fun _ => 0))), (b26, .inl (cI, 512, .inl (fun _ => 0))), (b27, .inl (cL, 24, .inr (.inl (fun _ => 0))))] := hD
  refine W.widen (k := 27) (n := 3112) (by omega) (by omega) ?_
  refine lv_astore_n hC.1 hC.2.1 (zdk oZ_law_0 3 rfl) rfl hl (by decide) rfl (fun ls hl => ?_)
  have hl : lv_has ls 7 [(1, .ref b1), (0, .ref b)] := hl
  refine k_new (ci := 6) (fs := [.int 0, .int 0, .null, .int 0, .null, .null, .null, .int 0, .int 0, .null, .int 0, .int 0, .null, .null, .null, .null, .int 0, .int 0, .int 0, .null, .null, .int 0, .null, .null, .null, .null, .int 0, .int 0, .null, .null, .null, .null]) hC hP hD hS hA rfl (zmem 740 (by decide +kernel) (by decide +kernel)) (zmem 741 (by decide +kernel) (by decide +kernel)) (zmem 57 (by decide +kernel) (by decide +kernel)) (by decide +kernel) (by decide) (by decide) (zdk oZ_law_0 4 rfl) (fun b28 H hP hD hS hqb28 => ?_)
  have hP : va_P D zcl [(b1, .inr (0, [.ref b2, .ref b6, .ref b7, .ref b15])), (b2, .inr (1, [.ref b3, .ref b4, .ref b5, .int 0, .int 0, .int 1, .int 2, .int (-1), .int 0])), (b3, .inl (cI, 400, .inl (fun _ => 0))), (b4, .inl (cI, 25, .inl (fun _ => 0))), (b5, .inl (cI, 24, .inl (fun _ => 0))), (b6, .inl (cI, 7, .inl (fun _ => 0))), (b7, .inr (2, [.ref b10, .ref b8, .int 0, .ref b2, .ref b9])), (b8, .inl (cI, 7, .inl (fun _ => 0))), (b9, .inl (cI, 35, .inl (fun _ => 0))), (b10, .inr (3, [.ref b11, .ref b13, .int 0, .ref b2, .ref b14, .int 0, .int 0, .int 0])), (b11, .inr (4, [.ref b12, .int 0, .int 0, .int 0, .int 0, .int 0, .int 0])), (b12, .inl (cI, 7, .inl (fun _ => 0))), (b13, .inl (cI, 35, .inl (fun _ => 0))), (b14, .inl (cI, 400, .inl (fun _ => 0))), (b15, .inr (5, [.int 0, .int (-1), .int 0, .ref b16, .ref b2, .ref b17, .ref b22, .ref b23, .ref b24, .ref b25, .ref b26, .ref b27, .int 0, .int 1, .int 0, .int 0])), (b16, .inl (cI, 18, .inl (fun _ => 0))), (b17, .inr (3, [.ref b18, .ref b20, .int 0, .ref b2, .ref b21, .int 0, .int 0, .int 0])), (b18, .inr (4, [.ref b19, .int 0, .int 0, .int 0, .int 0, .int 0, .int 0])), (b19, .inl (cI, 7, .inl (fun _ => 0))), (b20, .inl (cI, 35, .inl (fun _ => 0))), (b21, .inl (cI, 400, .inl (fun _ => 0))), (b22, .inl (cL, 200, .inr (.inl (fun _ => 0)))), (b23, .inl (cI, 200, .inl (fun _ => 0))), (b24, .inl (cI, 200, .inl (fun _ => 0))), (b25, .inl (cI, 512, .inl (fun _ => 0))), (b26, .inl (cI, 512, .inl (fun _ => 0))), (b27, .inl (cL, 24, .inr (.inl (fun _ => 0)))), (b28, .inr (6, [.int 0, .int 0, .null, .int 0, .null, .null, .null, .int 0, .int 0, .null, .int 0, .int 0, .null, .null, .null, .null, .int 0, .int 0, .int 0, .null, .null, .int 0, .null, .null, .null, .null, .int 0, .int 0, .null, .null, .null, .null]))] H := hP
  have hD : va_D (fun q => s.heap.size ≤ q) [(b1, .inr (0, [.ref b2, .ref b6, .ref b7, .ref b15])), (b2, .inr (1, [.ref b3, .ref b4, .ref b5, .int 0, .int 0, .int 1, .int 2, .int (-1), .int 0])), (b3, .inl (cI, 400, .inl (fun _ => 0))), (b4, .inl (cI, 25, .inl (fun _ => 0))), (b5, .inl (cI, 24, .inl (fun _ => 0))), (b6, .inl (cI, 7, .inl (fun _ => 0))), (b7, .inr (2, [.ref b10, .ref b8, .int 0, .ref b2, .ref b9])), (b8, .inl (cI, 7, .inl (fun _ => 0))), (b9, .inl (cI, 35, .inl (fun _ => 0))), (b10, .inr (3, [.ref b11, .ref b13, .int 0, .ref b2, .ref b14, .int 0, .int 0, .int 0])), (b11, .inr (4, [.ref b12, .int 0, .int 0, .int 0, .int 0, .int 0, .int 0])), (b12, .inl (cI, 7, .inl (fun _ => 0))), (b13, .inl (cI, 35, .inl (fun _ => 0))), (b14, .inl (cI, 400, .inl (fun _ => 0))), (b15, .inr (5, [.int 0, .int (-1), .int 0, .ref b16, .ref b2, .ref b17, .ref b22, .ref b23, .ref b24, .ref b25, .ref b26, .ref b27, .int 0, .int 1, .int 0, .int 0])), (b16, .inl (cI, 18, .inl (fun _ => 0))), (b17, .inr (3, [.ref b18, .ref b20, .int 0, .ref b2, .ref b21, .int 0, .int 0, .int 0])), (b18, .inr (4, [.ref b19, .int 0, .int 0, .int 0, .int 0, .int 0, .int 0])), (b19, .inl (cI, 7, .inl (fun _ => 0))), (b20, .inl (cI, 35, .inl (fun _ => 0))), (b21, .inl (cI, 400, .inl (fun _ => 0))), (b22, .inl (cL, 200, .inr (.inl (fun _ => 0)))), (b23, .inl (cI, 200, .inl (fun _ => 0))), (b24, .inl (cI, 200, .inl (fun _ => 0))), (b25, .inl (cI, 512, .inl (fun _ => 0))), (b26, .inl (cI, 512, .inl (fun _ => 0))), (b27, .inl (cL, 24, .inr (.inl (fun _ => 0)))), (b28, .inr (6, [.int 0, .int 0, .null, .int 0, .null, .null, .null, .int 0, .int 0, .null, .int 0, .int 0, .null, .null, .null, .null, .int 0, .int 0, .int 0, .null, .null, .int 0, .null, .null, .null, .null, .int 0, .int 0, .null, .null, .null, .null]))] := hD
  refine W.widen (k := 28) (n := 3144) (by omega) (by omega) ?_
  refine lv_dup hC.1 hC.2.1 (zdk oZ_law_0 5 rfl) rfl ?_
  refine k_callI (M' := mM_init) (d := 0) (C' := 19) (S' := 1852) (ex := []) (rest := [.ref b28]) (wr := [(b1, .inr (0, [.ref b2, .ref b6, .ref b7, .ref b15])), (b2, .inr (1, [.ref b3, .ref b4, .ref b5, .int 0, .int 0, .int 1, .int 2, .int (-1), .int 0])), (b3, .inl (cI, 400, .inl (fun _ => 0))), (b4, .inl (cI, 25, .inl (fun _ => 0))), (b5, .inl (cI, 24, .inl (fun _ => 0))), (b6, .inl (cI, 7, .inl (fun _ => 0))), (b7, .inr (2, [.ref b10, .ref b8, .int 0, .ref b2, .ref b9])), (b8, .inl (cI, 7, .inl (fun _ => 0))), (b9, .inl (cI, 35, .inl (fun _ => 0))), (b10, .inr (3, [.ref b11, .ref b13, .int 0, .ref b2, .ref b14, .int 0, .int 0, .int 0])), (b11, .inr (4, [.ref b12, .int 0, .int 0, .int 0, .int 0, .int 0, .int 0])), (b12, .inl (cI, 7, .inl (fun _ => 0))), (b13, .inl (cI, 35, .inl (fun _ => 0))), (b14, .inl (cI, 400, .inl (fun _ => 0))), (b15, .inr (5, [.int 0, .int (-1), .int 0, .ref b16, .ref b2, .ref b17, .ref b22, .ref b23, .ref b24, .ref b25, .ref b26, .ref b27, .int 0, .int 1, .int 0, .int 0])), (b16, .inl (cI, 18, .inl (fun _ => 0))), (b17, .inr (3, [.ref b18, .ref b20, .int 0, .ref b2, .ref b21, .int 0, .int 0, .int 0])), (b18, .inr (4, [.ref b19, .int 0, .int 0, .int 0, .int 0, .int 0, .int 0])), (b19, .inl (cI, 7, .inl (fun _ => 0))), (b20, .inl (cI, 35, .inl (fun _ => 0))), (b21, .inl (cI, 400, .inl (fun _ => 0))), (b22, .inl (cL, 200, .inr (.inl (fun _ => 0)))), (b23, .inl (cI, 200, .inl (fun _ => 0))), (b24, .inl (cI, 200, .inl (fun _ => 0))), (b25, .inl (cI, 512, .inl (fun _ => 0))), (b26, .inl (cI, 512, .inl (fun _ => 0))), (b27, .inl (cL, 24, .inr (.inl (fun _ => 0))))]) hC hP hD hS hA iM_init lM_Z_65 (spM_init b28) rfl 27 rfl [0, 1, 2, 3, 4, 5, 6, 7, 8, 9, 10, 11, 12, 13, 14, 15, 16, 17, 18, 19, 20, 21, 22, 23, 24, 25, 26] rfl (by decide) (by decide) (Nat.le_of_ble_eq_true rfl) hl.1 (zdk oZ_law_0 6 rfl) (by decide) (by decide) (by decide) (by decide) (fun as H locs has hP hD hS => ?_)
  obtain ⟨b29, t0, rfl, e0⟩ := lkS has
  obtain ⟨b30, t1, rfl, e1⟩ := lkS e0
  obtain ⟨b31, t2, rfl, e2⟩ := lkS e1
  obtain ⟨b32, t3, rfl, e3⟩ := lkS e2
  obtain ⟨b33, t4, rfl, e4⟩ := lkS e3
  obtain ⟨b34, t5, rfl, e5⟩ := lkS e4
  obtain ⟨b35, t6, rfl, e6⟩ := lkS e5
  obtain ⟨b36, t7, rfl, e7⟩ := lkS e6
  obtain ⟨b37, t8, rfl, e8⟩ := lkS e7
  obtain ⟨b38, t9, rfl, e9⟩ := lkS e8
  obtain ⟨b39, t10, rfl, e10⟩ := lkS e9
  obtain ⟨b40, t11, rfl, e11⟩ := lkS e10
  obtain ⟨b41, t12, rfl, e12⟩ := lkS e11
  obtain ⟨b42, t13, rfl, e13⟩ := lkS e12
  obtain ⟨b43, t14, rfl, e14⟩ := lkS e13
  obtain ⟨b44, t15, rfl, e15⟩ := lkS e14
  obtain ⟨b45, t16, rfl, e16⟩ := lkS e15
  obtain ⟨b46, t17, rfl, e17⟩ := lkS e16
  obtain ⟨b47, t18, rfl, e18⟩ := lkS e17
  obtain rfl := lk0 e18
  have hP : va_P D zcl [(b1, .inr (0, [.ref b2, .ref b6, .ref b7, .ref b15])), (b2, .inr (1, [.ref b3, .ref b4, .ref b5, .int 0, .int 0, .int 1, .int 2, .int (-1), .int 0])), (b3, .inl (cI, 400, .inl (fun _ => 0))), (b4, .inl (cI, 25, .inl (fun _ => 0))), (b5, .inl (cI, 24, .inl (fun _ => 0))), (b6, .inl (cI, 7, .inl (fun _ => 0))), (b7, .inr (2, [.ref b10, .ref b8, .int 0, .ref b2, .ref b9])), (b8, .inl (cI, 7, .inl (fun _ => 0))), (b9, .inl (cI, 35, .inl (fun _ => 0))), (b10, .inr (3, [.ref b11, .ref b13, .int 0, .ref b2, .ref b14, .int 0, .int 0, .int 0])), (b11, .inr (4, [.ref b12, .int 0, .int 0, .int 0, .int 0, .int 0, .int 0])), (b12, .inl (cI, 7, .inl (fun _ => 0))), (b13, .inl (cI, 35, .inl (fun _ => 0))), (b14, .inl (cI, 400, .inl (fun _ => 0))), (b15, .inr (5, [.int 0, .int (-1), .int 0, .ref b16, .ref b2, .ref b17, .ref b22, .ref b23, .ref b24, .ref b25, .ref b26, .ref b27, .int 0, .int 1, .int 0, .int 0])), (b16, .inl (cI, 18, .inl (fun _ => 0))), (b17, .inr (3, [.ref b18, .ref b20, .int 0, .ref b2, .ref b21, .int 0, .int 0, .int 0])), (b18, .inr (4, [.ref b19, .int 0, .int 0, .int 0, .int 0, .int 0, .int 0])), (b19, .inl (cI, 7, .inl (fun _ => 0))), (b20, .inl (cI, 35, .inl (fun _ => 0))), (b21, .inl (cI, 400, .inl (fun _ => 0))), (b22, .inl (cL, 200, .inr (.inl (fun _ => 0)))), (b23, .inl (cI, 200, .inl (fun _ => 0))), (b24, .inl (cI, 200, .inl (fun _ => 0))), (b25, .inl (cI, 512, .inl (fun _ => 0))), (b26, .inl (cI, 512, .inl (fun _ => 0))), (b27, .inl (cL, 24, .inr (.inl (fun _ => 0)))), (b28, .inr (6, [.int 0, .int 0, .ref b29, .int 0, .ref b30, .ref b31, .ref b32, .int 0, .int 0, .ref b33, .int 0, .int 0, .ref b34, .ref b35, .ref b36, .ref b37, .int 0, .int 0, .int 0, .ref b38, .ref b39, .int 0, .ref b40, .ref b41, .ref b42, .ref b43, .int (-1), .int 0, .ref b44, .ref b45, .ref b46, .ref b47])), (b29, .inl (cI, 400, .inl (fun _ => 0))), (b30, .inl (cI, 24, .inl (fun _ => 0))), (b31, .inl (cI, 24, .inl (fun _ => 0))), (b32, .inl (cI, 24, .inl (fun _ => 0))), (b33, .inl (cI, 7, .inl (fun _ => 0))), (b34, .inl (cI, 7, .inl (fun _ => 0))), (b35, .inl (cI, 35, .inl (fun _ => 0))), (b36, .inl (cI, 35, .inl (fun _ => 0))), (b37, .inl (cI, 7, .inl (fun _ => 0))), (b38, .inl (cI, 400, .inl (fun _ => 0))), (b39, .inl (cI, 16, .inl (fun _ => 0))), (b40, .inl (cL, 200, .inr (.inl (fun _ => 0)))), (b41, .inl (cI, 200, .inl (fun _ => 0))), (b42, .inl (cI, 200, .inl (fun _ => 0))), (b43, .inl (cI, 200, .inl (fun _ => 0))), (b44, .inl (cI, 24, .inl (fun _ => 0))), (b45, .inl (cI, 35, .inl (fun _ => 0))), (b46, .inl (cI, 7, .inl (fun _ => 0))), (b47, .inl (cI, 7, .inl (fun _ => 0)))] H := hP
  have hD : va_D (fun q => s.heap.size ≤ q) [(b1, .inr (0, [.ref b2, .ref b6, .ref b7, .ref b15])), (b2, .inr (1, [.ref b3, .ref b4, .ref b5, .int 0, .int 0, .int 1, .int 2, .int (-1), .int 0])), (b3, .inl (cI, 400, .inl (fun _ => 0))), (b4, .inl (cI, 25, .inl (fun _ => 0))), (b5, .inl (cI, 24, .inl (fun _ => 0))), (b6, .inl (cI, 7, .inl (fun _ => 0))), (b7, .inr (2, [.ref b10, .ref b8, .int 0, .ref b2, .ref b9])), (b8, .inl (cI, 7, .inl (fun _ => 0))), (b9, .inl (cI, 35, .inl (fun _ => 0))), (b10, .inr (3, [.ref b11, .ref b13, .int 0, .ref b2, .ref b14, .int 0, .int 0, .int 0])), (b11, .inr (4, [.ref b12, .int 0, .int 0, .int 0, .int 0, .int 0, .int 0])), (b12, .inl (cI, 7, .inl (fun _ => 0))), (b13, .inl (cI, 35, .inl (fun _ => 0))), (b14, .inl (cI, 400, .inl (fun _ => 0))), (b15, .inr (5, [.int 0, .int (-1), .int 0, .ref b16, .ref b2, .ref b17, .ref b22, .ref b23, .ref b24, .ref b25, .ref b26, .ref b27, .int 0, .int 1, .int 0, .int 0])), (b16, .inl (cI, 18, .inl (fun _ => 0))), (b17, .inr (3, [.ref b18, .ref b20, .int 0, .ref b2, .ref b21, .int 0, .int 0, .int 0])), (b18, .inr (4, [.ref b19, .int 0, .int 0, .int 0, .int 0, .int 0, .int 0])), (b19, .inl (cI, 7, .inl (fun _ => 0))), (b20, .inl (cI, 35, .inl (fun _ => 0))), (b21, .inl (cI, 400, .inl (fun _ => 0))), (b22, .inl (cL, 200, .inr (.inl (fun _ => 0)))), (b23, .inl (cI, 200, .inl (fun _ => 0))), (b24, .inl (cI, 200, .inl (fun _ => 0))), (b25, .inl (cI, 512, .inl (fun _ => 0))), (b26, .inl (cI, 512, .inl (fun _ => 0))), (b27, .inl (cL, 24, .inr (.inl (fun _ => 0)))), (b28, .inr (6, [.int 0, .int 0, .ref b29, .int 0, .ref b30, .ref b31, .ref b32, .int 0, .int 0, .ref b33, .int 0, .int 0, .ref b34, .ref b35, .ref b36, .ref b37, .int 0, .int 0, .int 0, .ref b38, .ref b39, .int 0, .ref b40, .ref b41, .ref b42, .ref b43, .int (-1), .int 0, .ref b44, .ref b45, .ref b46, .ref b47])), (b29, .inl (cI, 400, .inl (fun _ => 0))), (b30, .inl (cI, 24, .inl (fun _ => 0))), (b31, .inl (cI, 24, .inl (fun _ => 0))), (b32, .inl (cI, 24, .inl (fun _ => 0))), (b33, .inl (cI, 7, .inl (fun _ => 0))), (b34, .inl (cI, 7, .inl (fun _ => 0))), (b35, .inl (cI, 35, .inl (fun _ => 0))), (b36, .inl (cI, 35, .inl (fun _ => 0))), (b37, .inl (cI, 7, .inl (fun _ => 0))), (b38, .inl (cI, 400, .inl (fun _ => 0))), (b39, .inl (cI, 16, .inl (fun _ => 0))), (b40, .inl (cL, 200, .inr (.inl (fun _ => 0)))), (b41, .inl (cI, 200, .inl (fun _ => 0))), (b42, .inl (cI, 200, .inl (fun _ => 0))), (b43, .inl (cI, 200, .inl (fun _ => 0))), (b44, .inl (cI, 24, .inl (fun _ => 0))), (b45, .inl (cI, 35, .inl (fun _ => 0))), (b46, .inl (cI, 7, .inl (fun _ => 0))), (b47, .inl (cI, 7, .inl (fun _ => 0)))] := hD
  refine W.widen (k := 47) (n := 4996) (by omega) (by omega) ?_
  refine lv_astore_n hC.1 hC.2.1 (zdk oZ_law_0 7 rfl) rfl hl (by decide) rfl (fun ls hl => ?_)
  have hl : lv_has ls 7 [(2, .ref b28), (1, .ref b1), (0, .ref b)] := hl
  refine lv_iconst (v := 1) hC.1 hC.2.1 (zdk oZ_law_0 8 rfl) (by decide) ?_
  refine k_arrJ (N' := 1) hC hP hD hS hA (by decide) (by decide) (by decide) (by decide) (by decide) (zdk oZ_law_0 9 rfl) (fun b48 H hP hD hS hqb48 => ?_)
  have hP : va_P D zcl [(b1, .inr (0, [.ref b2, .ref b6, .ref b7, .ref b15])), (b2, .inr (1, [.ref b3, .ref b4, .ref b5, .int 0, .int 0, .int 1, .int 2, .int (-1), .int 0])), (b3, .inl (cI, 400, .inl (fun _ => 0))), (b4, .inl (cI, 25, .inl (fun _ => 0))), (b5, .inl (cI, 24, .inl (fun _ => 0))), (b6, .inl (cI, 7, .inl (fun _ => 0))), (b7, .inr (2, [.ref b10, .ref b8, .int 0, .ref b2, .ref b9])), (b8, .inl (cI, 7, .inl (fun _ => 0))), (b9, .inl (cI, 35, .inl (fun _ => 0))), (b10, .inr (3, [.ref b11, .ref b13, .int 0, .ref b2, .ref b14, .int 0, .int 0, .int 0])), (b11, .inr (4, [.ref b12, .int 0, .int 0, .int 0, .int 0, .int 0, .int 0])), (b12, .inl (cI, 7, .inl (fun _ => 0))), (b13, .inl (cI, 35, .inl (fun _ => 0))), (b14, .inl (cI, 400, .inl (fun _ => 0))), (b15, .inr (5, [.int 0, .int (-1), .int 0, .ref b16, .ref b2, .ref b17, .ref b22, .ref b23, .ref b24, .ref b25, .ref b26, .ref b27, .int 0, .int 1, .int 0, .int 0])), (b16, .inl (cI, 18, .inl (fun _ => 0))), (b17, .inr (3, [.ref b18, .ref b20, .int 0, .ref b2, .ref b21, .int 0, .int 0, .int 0])), (b18, .inr (4, [.ref b19, .int 0, .int 0, .int 0, .int 0, .int 0, .int 0])), (b19, .inl (cI, 7, .inl (fun _ => 0))), (b20, .inl (cI, 35, .inl (fun _ => 0))), (b21, .inl (cI, 400, .inl (fun _ => 0))), (b22, .inl (cL, 200, .inr (.inl (fun _ => 0)))), (b23, .inl (cI, 200, .inl (fun _ => 0))), (b24, .inl (cI, 200, .inl (fun _ => 0))), (b25, .inl (cI, 512, .inl (fun _ => 0))), (b26, .inl (cI, 512, .inl (fun _ => 0))), (b27, .inl (cL, 24, .inr (.inl (fun _ => 0)))), (b28, .inr (6, [.int 0, .int 0, .ref b29, .int 0, .ref b30, .ref b31, .ref b32, .int 0, .int 0, .ref b33, .int 0, .int 0, .ref b34, .ref b35, .ref b36, .ref b37, .int 0, .int 0, .int 0, .ref b38, .ref b39, .int 0, .ref b40, .ref b41, .ref b42, .ref b43, .int (-1), .int 0, .ref b44, .ref b45, .ref b46, .ref b47])), (b29, .inl (cI, 400, .inl (fun _ => 0))), (b30, .inl (cI, 24, .inl (fun _ => 0))), (b31, .inl (cI, 24, .inl (fun _ => 0))), (b32, .inl (cI, 24, .inl (fun _ => 0))), (b33, .inl (cI, 7, .inl (fun _ => 0))), (b34, .inl (cI, 7, .inl (fun _ => 0))), (b35, .inl (cI, 35, .inl (fun _ => 0))), (b36, .inl (cI, 35, .inl (fun _ => 0))), (b37, .inl (cI, 7, .inl (fun _ => 0))), (b38, .inl (cI, 400, .inl (fun _ => 0))), (b39, .inl (cI, 16, .inl (fun _ => 0))), (b40, .inl (cL, 200, .inr (.inl (fun _ => 0)))), (b41, .inl (cI, 200, .inl (fun _ => 0))), (b42, .inl (cI, 200, .inl (fun _ => 0))), (b43, .inl (cI, 200, .inl (fun _ => 0))), (b44, .inl (cI, 24, .inl (fun _ => 0))), (b45, .inl (cI, 35, .inl (fun _ => 0))), (b46, .inl (cI, 7, .inl (fun _ => 0))), (b47, .inl (cI, 7, .inl (fun _ => 0))), (b48, .inl (cL, 1, .inr (.inl (fun _ => 0))))] H := hP
  have hD : va_D (fun q => s.heap.size ≤ q) [(b1, .inr (0, [.ref b2, .ref b6, .ref b7, .ref b15])), (b2, .inr (1, [.ref b3, .ref b4, .ref b5, .int 0, .int 0, .int 1, .int 2, .int (-1), .int 0])), (b3, .inl (cI, 400, .inl (fun _ => 0))), (b4, .inl (cI, 25, .inl (fun _ => 0))), (b5, .inl (cI, 24, .inl (fun _ => 0))), (b6, .inl (cI, 7, .inl (fun _ => 0))), (b7, .inr (2, [.ref b10, .ref b8, .int 0, .ref b2, .ref b9])), (b8, .inl (cI, 7, .inl (fun _ => 0))), (b9, .inl (cI, 35, .inl (fun _ => 0))), (b10, .inr (3, [.ref b11, .ref b13, .int 0, .ref b2, .ref b14, .int 0, .int 0, .int 0])), (b11, .inr (4, [.ref b12, .int 0, .int 0, .int 0, .int 0, .int 0, .int 0])), (b12, .inl (cI, 7, .inl (fun _ => 0))), (b13, .inl (cI, 35, .inl (fun _ => 0))), (b14, .inl (cI, 400, .inl (fun _ => 0))), (b15, .inr (5, [.int 0, .int (-1), .int 0, .ref b16, .ref b2, .ref b17, .ref b22, .ref b23, .ref b24, .ref b25, .ref b26, .ref b27, .int 0, .int 1, .int 0, .int 0])), (b16, .inl (cI, 18, .inl (fun _ => 0))), (b17, .inr (3, [.ref b18, .ref b20, .int 0, .ref b2, .ref b21, .int 0, .int 0, .int 0])), (b18, .inr (4, [.ref b19, .int 0, .int 0, .int 0, .int 0, .int 0, .int 0])), (b19, .inl (cI, 7, .inl (fun _ => 0))), (b20, .inl (cI, 35, .inl (fun _ => 0))), (b21, .inl (cI, 400, .inl (fun _ => 0))), (b22, .inl (cL, 200, .inr (.inl (fun _ => 0)))), (b23, .inl (cI, 200, .inl (fun _ => 0))), (b24, .inl (cI, 200, .inl (fun _ => 0))), (b25, .inl (cI, 512, .inl (fun _ => 0))), (b26, .inl (cI, 512, .inl (fun _ => 0))), (b27, .inl (cL, 24, .inr (.inl (fun _ => 0)))), (b28, .inr (6, [.int 0, .int 0, .ref b29, .int 0, .ref b30, .ref b31, .ref b32, .int 0, .int 0, .ref b33, .int 0, .int 0, .ref b34, .ref b35, .ref b36, .ref b37, .int 0, .int 0, .int 0, .ref b38, .ref b39, .int 0, .ref b40, .ref b41, .ref b42, .ref b43, .int (-1), .int 0, .ref b44, .ref b45, .ref b46, .ref b47])), (b29, .inl (cI, 400, .inl (fun _ => 0))), (b30, .inl (cI, 24, .inl (fun _ => 0))), (b31, .inl (cI, 24, .inl (fun _ => 0))), (b32, .inl (cI, 24, .inl (fun _ => 0))), (b33, .inl (cI, 7, .inl (fun _ => 0))), (b34, .inl (cI, 7, .inl (fun _ => 0))), (b35, .inl (cI, 35, .inl (fun _ => 0))), (b36, .inl (cI, 35, .inl (fun _ => 0))), (b37, .inl (cI, 7, .inl (fun _ => 0))), (b38, .inl (cI, 400, .inl (fun _ => 0))), (b39, .inl (cI, 16, .inl (fun _ => 0))), (b40, .inl (cL, 200, .inr (.inl (fun _ => 0)))), (b41, .inl (cI, 200, .inl (fun _ => 0))), (b42, .inl (cI, 200, .inl (fun _ => 0))), (b43, .inl (cI, 200, .inl (fun _ => 0))), (b44, .inl (cI, 24, .inl (fun _ => 0))), (b45, .inl (cI, 35, .inl (fun _ => 0))), (b46, .inl (cI, 7, .inl (fun _ => 0))), (b47, .inl (cI, 7, .inl (fun _ => 0))), (b48, .inl (cL, 1, .inr (.inl (fun _ => 0))))] := hD
  refine W.widen (k := 48) (n := 4997) (by omega) (by omega) ?_
  refine lv_astore_n hC.1 hC.2.1 (zdk oZ_law_0 10 rfl) rfl hl (by decide) rfl (fun ls hl => ?_)
  have hl : lv_has ls 7 [(3, .ref b48), (2, .ref b28), (1, .ref b1), (0, .ref b)] := hl
  refine lv_iconst (v := 0) hC.1 hC.2.1 (zdk oZ_law_0 11 rfl) (by decide) ?_
  refine lv_istore hC.1 hC.2.1 (zdk oZ_law_0 12 rfl) hl (by decide) rfl (fun ls hl => ?_)
  have hl : lv_has ls 7 [(4, .int 0), (3, .ref b48), (2, .ref b28), (1, .ref b1), (0, .ref b)] := hl
  obtain ⟨ad, had⟩ : ∃ ad : Nat → Nat, ad = fun k => if k = 104 then b else if k = 101 then q1 else if k = 102 then q2 else if k = 103 then q3 else [b1, b2, b3, b4, b5, b6, b7, b8, b9, b10, b11, b12, b13, b14, b15, b16, b17, b18, b19, b20, b21, b22, b23, b24, b25, b26, b27, b28, b29, b30, b31, b32, b33, b34, b35, b36, b37, b38, b39, b40, b41, b42, b43, b44, b45, b46, b47, b48].getD k 0 := ⟨_, rfl⟩
  have hw : zW ad cI cL zH0 = [(b1, .inr (0, [.ref b2, .ref b6, .ref b7, .ref b15])), (b2, .inr (1, [.ref b3, .ref b4, .ref b5, .int 0, .int 0, .int 1, .int 2, .int (-1), .int 0])), (b3, .inl (cI, 400, .inl (fun _ => 0))), (b4, .inl (cI, 25, .inl (fun _ => 0))), (b5, .inl (cI, 24, .inl (fun _ => 0))), (b6, .inl (cI, 7, .inl (fun _ => 0))), (b7, .inr (2, [.ref b10, .ref b8, .int 0, .ref b2, .ref b9])), (b8, .inl (cI, 7, .inl (fun _ => 0))), (b9, .inl (cI, 35, .inl (fun _ => 0))), (b10, .inr (3, [.ref b11, .ref b13, .int 0, .ref b2, .ref b14, .int 0, .int 0, .int 0])), (b11, .inr (4, [.ref b12, .int 0, .int 0, .int 0, .int 0, .int 0, .int 0])), (b12, .inl (cI, 7, .inl (fun _ => 0))), (b13, .inl (cI, 35, .inl (fun _ => 0))), (b14, .inl (cI, 400, .inl (fun _ => 0))), (b15, .inr (5, [.int 0, .int (-1), .int 0, .ref b16, .ref b2, .ref b17, .ref b22, .ref b23, .ref b24, .ref b25, .ref b26, .ref b27, .int 0, .int 1, .int 0, .int 0])), (b16, .inl (cI, 18, .inl (fun _ => 0))), (b17, .inr (3, [.ref b18, .ref b20, .int 0, .ref b2, .ref b21, .int 0, .int 0, .int 0])), (b18, .inr (4, [.ref b19, .int 0, .int 0, .int 0, .int 0, .int 0, .int 0])), (b19, .inl (cI, 7, .inl (fun _ => 0))), (b20, .inl (cI, 35, .inl (fun _ => 0))), (b21, .inl (cI, 400, .inl (fun _ => 0))), (b22, .inl (cL, 200, .inr (.inl (fun _ => 0)))), (b23, .inl (cI, 200, .inl (fun _ => 0))), (b24, .inl (cI, 200, .inl (fun _ => 0))), (b25, .inl (cI, 512, .inl (fun _ => 0))), (b26, .inl (cI, 512, .inl (fun _ => 0))), (b27, .inl (cL, 24, .inr (.inl (fun _ => 0)))), (b28, .inr (6, [.int 0, .int 0, .ref b29, .int 0, .ref b30, .ref b31, .ref b32, .int 0, .int 0, .ref b33, .int 0, .int 0, .ref b34, .ref b35, .ref b36, .ref b37, .int 0, .int 0, .int 0, .ref b38, .ref b39, .int 0, .ref b40, .ref b41, .ref b42, .ref b43, .int (-1), .int 0, .ref b44, .ref b45, .ref b46, .ref b47])), (b29, .inl (cI, 400, .inl (fun _ => 0))), (b30, .inl (cI, 24, .inl (fun _ => 0))), (b31, .inl (cI, 24, .inl (fun _ => 0))), (b32, .inl (cI, 24, .inl (fun _ => 0))), (b33, .inl (cI, 7, .inl (fun _ => 0))), (b34, .inl (cI, 7, .inl (fun _ => 0))), (b35, .inl (cI, 35, .inl (fun _ => 0))), (b36, .inl (cI, 35, .inl (fun _ => 0))), (b37, .inl (cI, 7, .inl (fun _ => 0))), (b38, .inl (cI, 400, .inl (fun _ => 0))), (b39, .inl (cI, 16, .inl (fun _ => 0))), (b40, .inl (cL, 200, .inr (.inl (fun _ => 0)))), (b41, .inl (cI, 200, .inl (fun _ => 0))), (b42, .inl (cI, 200, .inl (fun _ => 0))), (b43, .inl (cI, 200, .inl (fun _ => 0))), (b44, .inl (cI, 24, .inl (fun _ => 0))), (b45, .inl (cI, 35, .inl (fun _ => 0))), (b46, .inl (cI, 7, .inl (fun _ => 0))), (b47, .inl (cI, 7, .inl (fun _ => 0))), (b48, .inl (cL, 1, .inr (.inl (fun _ => 0))))] := by rw [had]; rfl
  rw [← hw] at hP hD
  have i0 : ad 0 = b1 := by rw [had]; rfl
  have i27 : ad 27 = b28 := by rw [had]; rfl
  have i47 : ad 47 = b48 := by rw [had]; rfl
  have i104 : ad 104 = b := by rw [had]; rfl
  have i101 : ad 101 = q1 := by rw [had]; rfl
  have i102 : ad 102 = q2 := by rw [had]; rfl
  have i103 : ad 103 = q3 := by rw [had]; rfl
  rw [← i0, ← i27, ← i47] at hl
  exact zgoon hflag hN hx hb hr hml hown hts hX hbl hlocks hg hexc hK hP hD hS i104 (by rw [i101]; exact z1) (by rw [i102]; exact z2) (by rw [i103]; exact z3) hl
