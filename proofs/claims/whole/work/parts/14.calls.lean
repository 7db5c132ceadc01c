/-! calls -/
theorem zgood {M M' : zM} {X : List Cond} (hX : ∀ w ∈ X, w ∈ ztb) (hc : Cond.code M'.1 M'.2.1 M'.2.2.1 M'.2.2.2 ∈ ztb) : GoodIn (zwo M) (X ++ zws M') := by
  have key : ∀ w ∈ ztb, w ∈ zwo M ∧ ((w.onTables && w.keeps) = true ∨ ∃ ty, w = .arrayClass ty) := fun w hw => ⟨hw, good_of_word (List.mem_filter.mp hw).2⟩
  intro w hw
  rcases List.mem_append.mp hw with h | h
  · exact key w (hX w h)
  · rcases List.mem_cons.mp h with h | h
    · exact key w (h ▸ hc)
    · exact key w h
theorem zgood0 {M M' : zM} (hc : Cond.code M'.1 M'.2.1 M'.2.2.1 M'.2.2.2 ∈ ztb) : GoodIn (zwo M) (zws M') := zgood (X := []) (fun w h => by cases h) hc
section ZRun
variable {p : Program} {l : Launch} {e : Env} {R : Room} {s : State} {m : MethodId} {args : Array Value} {below : List Frame} {meth : Method} {c : Code} {H : Heap} {locs : List Loc} {nc ns : Nat} {Q : State → Prop} {D : va_G} {ad : Nat → Nat} {cI cL : ClassId} {sz : Nat}
theorem zrun {K' : zR → zH → Prop} {pc : Nat} {ls : Array Slot} {st0 rest : List Value} {a : Array Value} {mc ms : Nat}
    (hr : va_Run p l e R s m args below meth c H locs nc ns mc ms (F0 m pc ls st0) rest (zQ D ad cI cL H.size K' a) (zA ad H.size)) (hsz : s.heap.size = sz) (hS : va_S (zA ad sz) s.heap H locs)
    (kk : ∀ (r : Option zV) (h' : zH) (H1 : Heap) (locs1 : List Loc), K' (.inl r) h' → va_P D zcl (zW ad cI cL h') H1 → va_S (zA ad sz) s.heap H1 locs1 → W p l e R s m args below meth c H1 locs1 (nc + mc) (ns + ms) Q (F0 m (pc + 3) ls ((r.map (ztv ad)).toList ++ rest))) : W p l e R s m args below meth c H locs nc ns Q (F0 m pc ls st0) := by
  intro T hT X
  obtain ⟨v, st₀, t, T', L, h0, X', hL, e1, e2, ⟨⟨r, h', hv, hk, hp, hK1⟩, hz, hkp⟩, stp⟩ := hr T hT X
  cases hv
  rw [h0] at hz hkp
  have sub := zA_mono (ad := ad) (a := sz) (b := H.size) (by rw [← hsz]; exact hS.1)
  obtain ⟨t2, a1, b1⟩ := kk r h' T'.heap (locs ++ L) hk (by rw [e1]; exact hp)
    ⟨Nat.le_trans hS.1 (by rw [e1]; exact hz), fun q h1 h2 => by rw [e1, hkp q (Nat.lt_of_lt_of_le h1 hS.1) (fun z => h2 (sub q z))]; exact hS.2.1 q h1 h2, fun q hq => by
      rcases List.mem_append.mp hq with h | h
      · exact hS.2.2 q h
      · exact sub _ (hL q h)⟩ T' rfl X'
  exact ⟨t2, stp t2 a1, b1⟩
end ZRun
theorem zRm_up1 {d C S C' S' : Nat} : (zRm d C S).frames + 1 ≤ (zRm (d + 1) C' S').frames := by show d + 8 + 1 ≤ d + 1 + 8; omega
theorem zRm_up2 {d C S C' S' n : Nat} (h : n ≤ 180) : 8 + (n + 11) + (zRm d C S).locals ≤ (zRm (d + 1) C' S').locals := by show 8 + (n + 11) + 200 * (d + 1) ≤ 200 * (d + 1 + 1); omega
theorem zret_st {ad : Nat → Nat} {r : Option zV} {st : List zV} : (r.toList ++ st).map (ztv ad) = (r.map (ztv ad)).toList ++ st.map (ztv ad) := by cases r <;> simp
/-- what the tables say of a method of ours -/
def zOk (M' : zM) (n : Nat) : Prop := Cond.code M'.1 M'.2.1 M'.2.2.1 M'.2.2.2 ∈ ztb ∧ (M'.1.cls ≠ "java/lang/invoke/MethodHandle" ∧ M'.1.cls ≠ "java/lang/invoke/VarHandle" ∧ (parseMethodDescriptor M'.1.desc).map (fun d => d.parameters.length) = some n) ∧ M'.2.2.1 ≤ 180 ∧ Cond.initialized M'.1.cls ∈ ztb
def zOkV (M' : zM) (n : Nat) : Prop := zOk M' n ∧ Cond.instanceMethod M'.1 ∈ ztb ∧ Cond.selects M'.1.cls M'.1 M'.1 ∈ ztb
def zOkS (M' : zM) (n : Nat) : Prop := zOk M' n ∧ Cond.static M'.1 ∈ ztb
section ZCall
variable {t : Bool} {d nc ns C S : Nat} {M : zM} {K : zR → zH → Prop} {pc : Nat} {L : List (Option zV)} {st : List zV} {h : zH}
theorem zpre {l : Launch} {D : va_G} {ad : Nat → Nat} {cI cL : ClassId} {sz : Nat} {p : Program} {s : State} {m : MethodId} {args : Array Value} {meth : Method} {cd : Code} {H : Heap} {locs : List Loc} {As : List zV} (hC : zC l D ad cI cL M sz p s m args meth cd) (hP : va_P D zcl (zW ad cI cL h) H) (hS : va_S (zA ad sz) s.heap H locs) :
    ∀ U : State, U.heap = H → s.WarmedH U.vm → zPc D ad cI cL H.size As h (As.map (ztv ad)).toArray U := fun U hU hW =>
  ⟨rfl, by rw [hU], by rw [hU]; exact hP, va_K.moved hW.alike hC.K, by rw [hU]; exact hC.stat.next hC.hsz hS hW.alike, hC.nw.warm hW⟩
theorem zCN {R : Room} {l : Launch} {D : va_G} {ad : Nat → Nat} {cI cL : ClassId} {sz : Nat} {p : Program} {s : State} {m : MethodId} {args : Array Value} {meth : Method} {cd : Code} {M' : zM} {rm : Room} {idx n : Nat} {host : String} (hC : zC l D ad cI cL M sz p s m args meth cd) (hO : zOk M' n) (hl : Cond.methodLinkNest M.1.cls idx M'.1 host ∈ lw_tbl) (hc : rm.cells = 0) (hs : rm.slots = 0) (h1 : rm.frames + 1 ≤ R.frames) (h2 : 8 + (M'.2.2.1 + 11) + rm.locals ≤ R.locals) :
    va_CN R s args M.1.cls idx M'.1 host M'.2.1 M'.2.2.1 M'.2.2.2 (zws M') rm 0 0 n :=
  ⟨⟨hc, hs, h1, h2, pay_in hC.words (zgood0 hO.1), List.mem_cons_self⟩, hC.word hO.1, hC.word hO.2.2.2, ⟨hO.2.1.1, hO.2.1.2.1⟩, fun sig h => by
    have h2 := hO.2.1.2.2
    rw [h] at h2
    exact (Option.some.inj h2).symm, hC.nest hl rfl⟩
theorem r_callV {M' : zM} {idx n q ci N : Nat} {ks : List (Bool ⊕ Nat)} {T : u_T} {As : List zV} {K' : zR → zH → Prop} (hd : decode M.2.1 pc = .ok (.invokevirtual idx, 3)) (hl0 : Cond.methodLink M.1.cls idx M'.1 ∈ ztb) (hO : zOkV M' n) (hq : zS[q]? = some (.inr (ci, ks))) (hcl : zcl[ci]? = some (M'.1.cls, T, N)) (hn : As.length = n) (hw : zwt st ≤ 8) (hsz : L.length = M.2.2.1) (hsp : zSP d 0 0 M' (.inr (.inr q) :: As) h K') (k : ∀ r h', K' (.inl r) h' → zMC t (d + 1) nc ns C S M K (pc + 3) L (r.toList ++ st) h') : zMC t (d + 1) nc ns C S M K pc L (As.reverse ++ .inr (.inr q) :: st) h := by
  intro c1 c2 l D ad cI cL sz p e s m args below meth cd hC H locs ls hP hS hl
  have hM := hsp l D ad cI cL H.size hC.inj hC.flag
  have hst : (As.reverse ++ .inr (.inr q) :: st).map (ztv ad) = (As.map (ztv ad)).reverse ++ .ref (ad q) :: st.map (ztv ad) := by simp [ztv]
  rw [hst]
  refine zrun (va_runV (As := As.map (ztv ad)) (rest := st.map (ztv ad)) (nL := ls.size) ⟨hC.1, hC.2.1, hC.2.2.1.trans (hsz.symm.trans hl.1.symm), hC.own, hC.words⟩ hM (cwV n hC.words (zgood (fun w hw => by
    rcases List.mem_cons.mp hw with rfl | hw
    · exact hl0
    rcases List.mem_cons.mp hw with rfl | hw
    · exact hO.2.1
    rcases List.mem_cons.mp hw with rfl | hw
    · exact hO.2.2
    rcases List.mem_cons.mp hw with rfl | hw
    · exact hO.1.2.2.2
    cases hw) hO.1.1) rfl rfl rfl ⟨rfl, hO.1.2.1⟩ ⟨zRm_up1, zRm_up2 hO.1.2.2.1⟩) ⟨zPc_blind, va_recv hC.K hP hcl (zW_get hq), zpre (As := .inr (.inr q) :: As) hC hP hS⟩ rfl (by rw [List.length_map]; exact hn) rfl rfl (lv_room (by rw [zwt_eq]; exact hw)) hd ⟨c1, c2⟩) hC.hsz hS (fun r h' H1 locs1 hk hP1 hS1 => ?_)
  have key := k r h' hk c1 c2 l D ad cI cL sz p e s m args below meth cd hC H1 locs1 ls hP1 hS1 hl
  rw [zret_st] at key
  exact key
theorem r_callVN {M' : zM} {idx n q ci N : Nat} {host : String} {ks : List (Bool ⊕ Nat)} {T : u_T} {As : List zV} {K' : zR → zH → Prop} (hd : decode M.2.1 pc = .ok (.invokevirtual idx, 3)) (hl0 : Cond.methodLinkNest M.1.cls idx M'.1 host ∈ lw_tbl) (hO : zOkV M' n) (hq : zS[q]? = some (.inr (ci, ks))) (hcl : zcl[ci]? = some (M'.1.cls, T, N)) (hn : As.length = n) (hw : zwt st ≤ 8) (hsz : L.length = M.2.2.1) (hsp : zSP d 0 0 M' (.inr (.inr q) :: As) h K') (k : ∀ r h', K' (.inl r) h' → zMC t (d + 1) nc ns C S M K (pc + 3) L (r.toList ++ st) h') : zMC t (d + 1) nc ns C S M K pc L (As.reverse ++ .inr (.inr q) :: st) h := by
  intro c1 c2 l D ad cI cL sz p e s m args below meth cd hC H locs ls hP hS hl
  have hM := hsp l D ad cI cL H.size hC.inj hC.flag
  have hst : (As.reverse ++ .inr (.inr q) :: st).map (ztv ad) = (As.map (ztv ad)).reverse ++ .ref (ad q) :: st.map (ztv ad) := by simp [ztv]
  rw [hst]
  refine zrun (va_runVN (As := As.map (ztv ad)) (rest := st.map (ztv ad)) (nL := ls.size) (C := M'.1.cls) ⟨hC.1, hC.2.1, hC.2.2.1.trans (hsz.symm.trans hl.1.symm), hC.own, hC.words⟩ hM ⟨zCN hC hO.1 hl0 rfl rfl zRm_up1 (zRm_up2 hO.1.2.2.1), hC.word hO.2.1, hC.word hO.2.2⟩ ⟨zPc_blind, va_recv hC.K hP hcl (zW_get hq), zpre (As := .inr (.inr q) :: As) hC hP hS⟩ rfl (by rw [List.length_map]; exact hn) rfl rfl (lv_room (by rw [zwt_eq]; exact hw)) hd ⟨c1, c2⟩) hC.hsz hS (fun r h' H1 locs1 hk hP1 hS1 => ?_)
  have key := k r h' hk c1 c2 l D ad cI cL sz p e s m args below meth cd hC H1 locs1 ls hP1 hS1 hl
  rw [zret_st] at key
  exact key
theorem r_callS {M' : zM} {idx n : Nat} {As : List zV} {K' : zR → zH → Prop} (hd : decode M.2.1 pc = .ok (.invokestatic idx, 3)) (hl0 : Cond.methodLink M.1.cls idx M'.1 ∈ ztb) (hO : zOkS M' n) (hn : As.length = n) (hw : zwt st ≤ 8) (hsz : L.length = M.2.2.1) (hsp : zSP d 0 0 M' As h K') (k : ∀ r h', K' (.inl r) h' → zMC t (d + 1) nc ns C S M K (pc + 3) L (r.toList ++ st) h') : zMC t (d + 1) nc ns C S M K pc L (As.reverse ++ st) h := by
  intro c1 c2 l D ad cI cL sz p e s m args below meth cd hC H locs ls hP hS hl
  have hM := hsp l D ad cI cL H.size hC.inj hC.flag
  have hst : (As.reverse ++ st).map (ztv ad) = (As.map (ztv ad)).reverse ++ st.map (ztv ad) := by simp
  rw [hst]
  refine zrun (va_runS (As := As.map (ztv ad)) (rest := st.map (ztv ad)) (nL := ls.size) ⟨hC.1, hC.2.1, hC.2.2.1.trans (hsz.symm.trans hl.1.symm), hC.own, hC.words⟩ hM (va_cwS n hC.words (zgood (fun w hw => by
    rcases List.mem_cons.mp hw with rfl | hw
    · exact hl0
    rcases List.mem_cons.mp hw with rfl | hw
    · exact hO.2
    rcases List.mem_cons.mp hw with rfl | hw
    · exact hO.1.2.2.2
    cases hw) hO.1.1) rfl rfl rfl hO.1.2.1 ⟨zRm_up1, zRm_up2 hO.1.2.2.1⟩) ⟨zPc_blind, zpre (As := As) hC hP hS⟩ rfl (by rw [List.length_map]; exact hn) rfl rfl (lv_room (by rw [zwt_eq]; exact hw)) hd ⟨c1, c2⟩) hC.hsz hS (fun r h' H1 locs1 hk hP1 hS1 => ?_)
  have key := k r h' hk c1 c2 l D ad cI cL sz p e s m args below meth cd hC H1 locs1 ls hP1 hS1 hl
  rw [zret_st] at key
  exact key
theorem r_callSN {M' : zM} {idx n : Nat} {host : String} {As : List zV} {K' : zR → zH → Prop} (hd : decode M.2.1 pc = .ok (.invokestatic idx, 3)) (hl0 : Cond.methodLinkNest M.1.cls idx M'.1 host ∈ lw_tbl) (hO : zOkS M' n) (hn : As.length = n) (hw : zwt st ≤ 8) (hsz : L.length = M.2.2.1) (hsp : zSP d 0 0 M' As h K') (k : ∀ r h', K' (.inl r) h' → zMC t (d + 1) nc ns C S M K (pc + 3) L (r.toList ++ st) h') : zMC t (d + 1) nc ns C S M K pc L (As.reverse ++ st) h := by
  intro c1 c2 l D ad cI cL sz p e s m args below meth cd hC H locs ls hP hS hl
  have hM := hsp l D ad cI cL H.size hC.inj hC.flag
  have hst : (As.reverse ++ st).map (ztv ad) = (As.map (ztv ad)).reverse ++ st.map (ztv ad) := by simp
  rw [hst]
  refine zrun (va_runSN (As := As.map (ztv ad)) (rest := st.map (ztv ad)) (nL := ls.size) ⟨hC.1, hC.2.1, hC.2.2.1.trans (hsz.symm.trans hl.1.symm), hC.own, hC.words⟩ hM ⟨zCN hC hO.1 hl0 rfl rfl zRm_up1 (zRm_up2 hO.1.2.2.1), hC.word hO.2, trivial⟩ ⟨zPc_blind, zpre (As := As) hC hP hS⟩ rfl (by rw [List.length_map]; exact hn) rfl rfl (lv_room (by rw [zwt_eq]; exact hw)) hd ⟨c1, c2⟩) hC.hsz hS (fun r h' H1 locs1 hk hP1 hS1 => ?_)
  have key := k r h' hk c1 c2 l D ad cI cL sz p e s m args below meth cd hC H1 locs1 ls hP1 hS1 hl
  rw [zret_st] at key
  exact key
end ZCall
