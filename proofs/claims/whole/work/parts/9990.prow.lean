/-! rows at one context: the law's own walk -/
def zMD (l : Launch) (D : va_G) (ad : Nat → Nat) (cI cL : ClassId) (sz : Nat) (p : Program) (e : Env) (s : State) (m : MethodId) (args : Array Value) (below : List Frame) (meth : Method) (cd : Code) (Q : State → Prop) (d C S : Nat) (M : zM) (nc ns pc : Nat) (L : List (Option zV)) (st : List zV) (h : zH) : Prop :=
  nc ≤ C → ns ≤ S → ∀ (H : Heap) (locs : List Loc) (ls : Array Slot), va_P D zcl (zW ad cI cL h) H → va_S (zA ad sz) s.heap H locs → zlok ad ls L →
    W p l e (zRm d C S) s m args below meth cd H locs nc ns Q (F0 m pc ls (st.map (ztv ad)))
section ZP
variable {l : Launch} {D : va_G} {ad : Nat → Nat} {cI cL : ClassId} {sz : Nat} {p : Program} {e : Env} {s : State} {m : MethodId} {args : Array Value} {below : List Frame} {meth : Method} {cd : Code} {Q : State → Prop} {d nc ns C S : Nat} {M : zM} {pc : Nat} {L : List (Option zV)} {st : List zV} {h : zH}
theorem p_aload_n (hC : zC l D ad cI cL M sz p s m args meth cd) {n : Fin 4} {i : Nat} {x : Nat} (hd : decode M.2.1 pc = .ok (.aload_n n, 1)) (hi : (n : Nat) = i) (hx : L[i]? = some (some (.inr (.inr x)))) (k : zMD l D ad cI cL sz p e s m args below meth cd Q d C S M nc ns (pc + 1) L (.inr (.inr x) :: st) h) : zMD l D ad cI cL sz p e s m args below meth cd Q d C S M nc ns pc L st h :=
  fun c1 c2 H locs ls hP hS hl => lv_aload_n hC.1 hC.2.1 hd hi (hl.2.2 _ _ hx) (k c1 c2 H locs ls hP hS hl)
theorem p_iload (hC : zC l D ad cI cL M sz p s m args meth cd) {i : Nat} {x : Int32} (hd : decode M.2.1 pc = .ok (.iload i, 2)) (hx : L[i]? = some (some (.inl x))) (k : zMD l D ad cI cL sz p e s m args below meth cd Q d C S M nc ns (pc + 2) L (.inl x :: st) h) : zMD l D ad cI cL sz p e s m args below meth cd Q d C S M nc ns pc L st h :=
  fun c1 c2 H locs ls hP hS hl => lv_iload hC.1 hC.2.1 hd (hl.2.2 _ _ hx) (k c1 c2 H locs ls hP hS hl)
theorem p_istore (hC : zC l D ad cI cL M sz p s m args meth cd) {i : Nat} {x : Int32} {L' : List (Option zV)} (hd : decode M.2.1 pc = .ok (.istore i, 2)) (hn : i < L.length) (hL : zst1 L i (.inl x) = L') (k : zMD l D ad cI cL sz p e s m args below meth cd Q d C S M nc ns (pc + 2) L' st h) : zMD l D ad cI cL sz p e s m args below meth cd Q d C S M nc ns pc L (.inl x :: st) h :=
  fun c1 c2 H locs ls hP hS hl => lv_istore hC.1 hC.2.1 hd (zprs_has hl) hn rfl (fun ls' h' => k c1 c2 H locs ls' hP hS (hL ▸ zst1_ok (v := .inl x) h'))
theorem p_iconst (hC : zC l D ad cI cL M sz p s m args meth cd) {n : Int} {v : Int32} (hd : decode M.2.1 pc = .ok (.iconst n, 1)) (hv : Int32.ofInt n = v) (k : zMD l D ad cI cL sz p e s m args below meth cd Q d C S M nc ns (pc + 1) L (.inl v :: st) h) : zMD l D ad cI cL sz p e s m args below meth cd Q d C S M nc ns pc L st h :=
  fun c1 c2 H locs ls hP hS hl => lv_iconst hC.1 hC.2.1 hd hv (k c1 c2 H locs ls hP hS hl)
theorem p_bipush (hC : zC l D ad cI cL M sz p s m args meth cd) {n : Int} {v : Int32} (hd : decode M.2.1 pc = .ok (.bipush n, 2)) (hv : (Int8.ofInt n).toInt32 = v) (k : zMD l D ad cI cL sz p e s m args below meth cd Q d C S M nc ns (pc + 2) L (.inl v :: st) h) : zMD l D ad cI cL sz p e s m args below meth cd Q d C S M nc ns pc L st h :=
  fun c1 c2 H locs ls hP hS hl => lv_bipush hC.1 hC.2.1 hd hv (k c1 c2 H locs ls hP hS hl)
theorem p_iadd (hC : zC l D ad cI cL M sz p s m args meth cd) {x y : Int32} (hd : decode M.2.1 pc = .ok (.iadd, 1)) (k : zMD l D ad cI cL sz p e s m args below meth cd Q d C S M nc ns (pc + 1) L (.inl (x + y) :: st) h) : zMD l D ad cI cL sz p e s m args below meth cd Q d C S M nc ns pc L (.inl y :: .inl x :: st) h :=
  fun c1 c2 H locs ls hP hS hl => lv_iadd hC.1 hC.2.1 hd (k c1 c2 H locs ls hP hS hl)
theorem p_isub (hC : zC l D ad cI cL M sz p s m args meth cd) {x y : Int32} (hd : decode M.2.1 pc = .ok (.isub, 1)) (k : zMD l D ad cI cL sz p e s m args below meth cd Q d C S M nc ns (pc + 1) L (.inl (x - y) :: st) h) : zMD l D ad cI cL sz p e s m args below meth cd Q d C S M nc ns pc L (.inl y :: .inl x :: st) h :=
  fun c1 c2 H locs ls hP hS hl => lv_isub hC.1 hC.2.1 hd (k c1 c2 H locs ls hP hS hl)
theorem p_iand (hC : zC l D ad cI cL M sz p s m args meth cd) {x y : Int32} (hd : decode M.2.1 pc = .ok (.iand, 1)) (k : zMD l D ad cI cL sz p e s m args below meth cd Q d C S M nc ns (pc + 1) L (.inl (x &&& y) :: st) h) : zMD l D ad cI cL sz p e s m args below meth cd Q d C S M nc ns pc L (.inl y :: .inl x :: st) h :=
  fun c1 c2 H locs ls hP hS hl => lv_iand hC.1 hC.2.1 hd (k c1 c2 H locs ls hP hS hl)
theorem p_icmp_eq (hC : zC l D ad cI cL M sz p s m args meth cd) {x y : Int32} {off : Int} {tgt : Nat} (hd : decode M.2.1 pc = .ok (.if_icmp .eq off, 3)) (ht : (pc : Int) + off = (tgt : Int)) (kt : x = y → zMD l D ad cI cL sz p e s m args below meth cd Q d C S M nc ns tgt L st h) (kf : ¬ x = y → zMD l D ad cI cL sz p e s m args below meth cd Q d C S M nc ns (pc + 3) L st h) : zMD l D ad cI cL sz p e s m args below meth cd Q d C S M nc ns pc L (.inl y :: .inl x :: st) h :=
  fun c1 c2 H locs ls hP hS hl => lv_icmp_eq hC.1 hC.2.1 hd ht (fun q => kt q c1 c2 H locs ls hP hS hl) (fun q => kf q c1 c2 H locs ls hP hS hl)
theorem p_icmp_gt (hC : zC l D ad cI cL M sz p s m args meth cd) {x y : Int32} {off : Int} {tgt : Nat} (hd : decode M.2.1 pc = .ok (.if_icmp .gt off, 3)) (ht : (pc : Int) + off = (tgt : Int)) (kt : y < x → zMD l D ad cI cL sz p e s m args below meth cd Q d C S M nc ns tgt L st h) (kf : ¬ y < x → zMD l D ad cI cL sz p e s m args below meth cd Q d C S M nc ns (pc + 3) L st h) : zMD l D ad cI cL sz p e s m args below meth cd Q d C S M nc ns pc L (.inl y :: .inl x :: st) h :=
  fun c1 c2 H locs ls hP hS hl => lv_icmp_gt hC.1 hC.2.1 hd ht (fun q => kt q c1 c2 H locs ls hP hS hl) (fun q => kf q c1 c2 H locs ls hP hS hl)
theorem p_if_ne (hC : zC l D ad cI cL M sz p s m args meth cd) {x : Int32} {off : Int} {tgt : Nat} (hd : decode M.2.1 pc = .ok (.ifCond .ne off, 3)) (ht : (pc : Int) + off = (tgt : Int)) (kt : ¬ x = 0 → zMD l D ad cI cL sz p e s m args below meth cd Q d C S M nc ns tgt L st h) (kf : x = 0 → zMD l D ad cI cL sz p e s m args below meth cd Q d C S M nc ns (pc + 3) L st h) : zMD l D ad cI cL sz p e s m args below meth cd Q d C S M nc ns pc L (.inl x :: st) h :=
  fun c1 c2 H locs ls hP hS hl => lv_if_ne hC.1 hC.2.1 hd ht (fun q => kt q c1 c2 H locs ls hP hS hl) (fun q => kf q c1 c2 H locs ls hP hS hl)
theorem p_if_eq (hC : zC l D ad cI cL M sz p s m args meth cd) {x : Int32} {off : Int} {tgt : Nat} (hd : decode M.2.1 pc = .ok (.ifCond .eq off, 3)) (ht : (pc : Int) + off = (tgt : Int)) (kt : x = 0 → zMD l D ad cI cL sz p e s m args below meth cd Q d C S M nc ns tgt L st h) (kf : ¬ x = 0 → zMD l D ad cI cL sz p e s m args below meth cd Q d C S M nc ns (pc + 3) L st h) : zMD l D ad cI cL sz p e s m args below meth cd Q d C S M nc ns pc L (.inl x :: st) h :=
  fun c1 c2 H locs ls hP hS hl => lv_if_eq hC.1 hC.2.1 hd ht (fun q => kt q c1 c2 H locs ls hP hS hl) (fun q => kf q c1 c2 H locs ls hP hS hl)
theorem p_goto (hC : zC l D ad cI cL M sz p s m args meth cd) {off : Int} {tgt : Nat} (hd : decode M.2.1 pc = .ok (.goto off, 3)) (ht : (pc : Int) + off = (tgt : Int)) (k : zMD l D ad cI cL sz p e s m args below meth cd Q d C S M nc ns tgt L st h) : zMD l D ad cI cL sz p e s m args below meth cd Q d C S M nc ns pc L st h :=
  fun c1 c2 H locs ls hP hS hl => lv_goto hC.1 hC.2.1 hd ht (k c1 c2 H locs ls hP hS hl)
theorem p_tabIn (hC : zC l D ad cI cL M sz p s m args meth cd) {dflt lo hi : Int} {offs : Array Int} {len : Nat} {x : Int32} {off : Int} {tgt : Nat} (hd : decode M.2.1 pc = .ok (.tableswitch dflt lo hi offs, len)) (h1 : ¬ x.toInt < lo) (h2 : ¬ hi < x.toInt) (ho : offs[(x.toInt - lo).toNat]? = some off) (ht : (pc : Int) + off = (tgt : Int)) (k : zMD l D ad cI cL sz p e s m args below meth cd Q d C S M nc ns tgt L st h) : zMD l D ad cI cL sz p e s m args below meth cd Q d C S M nc ns pc L (.inl x :: st) h :=
  fun c1 c2 H locs ls hP hS hl => lv_tableIn hC.1 hC.2.1 hd h1 h2 ho ht (k c1 c2 H locs ls hP hS hl)
theorem p_lald (hC : zC l D ad cI cL M sz p s m args meth cd) {q n : Nat} {i : Int32} (hd : decode M.2.1 pc = .ok (.laload, 1)) (hq : zS[q]? = some (.inl (true, n))) (hi : vp_in i n) (k : zMD l D ad cI cL sz p e s m args below meth cd Q d C S M nc ns (pc + 1) L (.inr (.inl (h.2 q i.toNatClampNeg)) :: st) h) : zMD l D ad cI cL sz p e s m args below meth cd Q d C S M nc ns pc L (.inl i :: .inr (.inr q) :: st) h :=
  fun c1 c2 H locs ls hP hS hl => va_lald (D := D) (cl := zcl) hC.1 hC.2.1 hC.K hP q 1 (zW_get hq) rfl hi hd (k c1 c2 H locs ls hP hS hl)
theorem p_i2l (hC : zC l D ad cI cL M sz p s m args meth cd) {x : Int32} (hd : decode M.2.1 pc = .ok (.i2l, 1)) (k : zMD l D ad cI cL sz p e s m args below meth cd Q d C S M nc ns (pc + 1) L (.inr (.inl x.toInt64) :: st) h) : zMD l D ad cI cL sz p e s m args below meth cd Q d C S M nc ns pc L (.inl x :: st) h :=
  fun c1 c2 H locs ls hP hS hl => lv_i2l hC.1 hC.2.1 hd rfl (k c1 c2 H locs ls hP hS hl)
theorem p_lcmp (hC : zC l D ad cI cL M sz p s m args meth cd) {x y : Int64} (hd : decode M.2.1 pc = .ok (.lcmp, 1)) (k : zMD l D ad cI cL sz p e s m args below meth cd Q d C S M nc ns (pc + 1) L (.inl (lg_cmp x y) :: st) h) : zMD l D ad cI cL sz p e s m args below meth cd Q d C S M nc ns pc L (.inr (.inl y) :: .inr (.inl x) :: st) h :=
  fun c1 c2 H locs ls hP hS hl => W.lcmp hC.1 hC.2.1 hd (k c1 c2 H locs ls hP hS hl)
theorem p_iinc (hC : zC l D ad cI cL M sz p s m args meth cd) {i : Nat} {n : Int} {x v : Int32} {L' : List (Option zV)} (hd : decode M.2.1 pc = .ok (.iinc i n, 3)) (hx : L[i]? = some (some (.inl x))) (hv : x + Int32.ofInt n = v) (hL : zst1 L i (.inl v) = L') (k : zMD l D ad cI cL sz p e s m args below meth cd Q d C S M nc ns (pc + 3) L' st h) : zMD l D ad cI cL sz p e s m args below meth cd Q d C S M nc ns pc L st h := by
  intro c1 c2 H locs ls hP hS hl
  obtain ⟨j, hj⟩ := List.getElem?_of_mem (zprs_mem (ad := ad) hx)
  exact lv_iinc hC.1 hC.2.1 hd (zprs_has hl) hj hv (List.getElem?_eq_some_iff.mp hx).1 rfl (fun ls' h' => k c1 c2 H locs ls' hP hS (hL ▸ zst1_ok (v := .inl v) h'))
theorem p_callV (hC : zC l D ad cI cL M sz p s m args meth cd) {M' : zM} {idx n q ci N : Nat} {ks : List (Bool ⊕ Nat)} {T : u_T} {As : List zV} {K' : zR → zH → Prop} (hd : decode M.2.1 pc = .ok (.invokevirtual idx, 3)) (hl0 : Cond.methodLink M.1.cls idx M'.1 ∈ ztb) (hO : zOkV M' n) (hq : zS[q]? = some (.inr (ci, ks))) (hcl : zcl[ci]? = some (M'.1.cls, T, N)) (hn : As.length = n) (hw : zwt st ≤ 8) (hsz : L.length = M.2.2.1) (hsp : zSP d 0 0 M' (.inr (.inr q) :: As) h K') (k : ∀ r h', K' (.inl r) h' → zMD l D ad cI cL sz p e s m args below meth cd Q (d + 1) C S M nc ns (pc + 3) L (r.toList ++ st) h') : zMD l D ad cI cL sz p e s m args below meth cd Q (d + 1) C S M nc ns pc L (As.reverse ++ .inr (.inr q) :: st) h := by
  intro c1 c2 H locs ls hP hS hl
  have hM := hsp l D ad cI cL H.size hC.inj hC.flag
  have hst : (As.reverse ++ .inr (.inr q) :: st).map (ztv ad) = (As.map (ztv ad)).reverse ++ .ref (ad q) :: st.map (ztv ad) := by simp [ztv]
  rw [hst]
  refine zrun (va_runV (As := As.map (ztv ad)) (rest := st.map (ztv ad)) (nL := ls.size) ⟨hC.1, hC.2.1, hC.2.2.1.trans (hsz.symm.trans hl.1.symm), hC.own, hC.words⟩ hM (cwV n hC.words (zgood (fun w hw => by
    rcases List.mem_cons.mp hw with rfl | hw
    · exact hl0
    rcases List.mem_cons.mp hw with rfl | hw
    · exact hO.2.1
    rcases List.mem_cons.mp hw with rfl | hw
    · exact hO.2.2
    rcases List.mem_cons.mp hw with rfl | hw
    · exact hO.1.2.2.2
    cases hw) hO.1.1) rfl rfl rfl ⟨rfl, hO.1.2.1⟩ ⟨zRm_up1, zRm_up2 hO.1.2.2.1⟩) ⟨zPc_blind, va_recv hC.K hP hcl (zW_get hq), zpre (As := .inr (.inr q) :: As) hC hP hS⟩ rfl (by rw [List.length_map]; exact hn) rfl rfl (lv_room (by rw [zwt_eq]; exact hw)) hd ⟨c1, c2⟩) hC.hsz hS (fun r h' H1 locs1 hk hP1 hS1 => ?_)
  have key := k r h' hk c1 c2 H1 locs1 ls hP1 hS1 hl
  rw [zret_st] at key
  exact key
theorem p_weak {L' : List (Option zV)} (hlen : L'.length = L.length) (hw : ∀ (i : Nat) (v : zV), L'[i]? = some (some v) → L[i]? = some (some v)) (k : zMD l D ad cI cL sz p e s m args below meth cd Q d C S M nc ns pc L' st h) : zMD l D ad cI cL sz p e s m args below meth cd Q d C S M nc ns pc L st h :=
  fun c1 c2 H locs ls hP hS hl => k c1 c2 H locs ls hP hS ⟨hl.1.trans hlen.symm, hl.2.1, fun i v hv => hl.2.2 i v (hw i v hv)⟩
theorem p_sld (hC : zC l D ad cI cL M sz p s m args meth cd) {b N : Nat} {xs : Nat → Int32} (hX : va_X b N xs s s.heap) (hb : b < s.heap.size) (hA : ¬ zA ad sz b) (had : ad 104 = b) {i : Int32} (hi : vp_in i N) (hd : decode M.2.1 pc = .ok (.iaload, 1)) (k : zMD l D ad cI cL sz p e s m args below meth cd Q d C S M nc ns (pc + 1) L (.inl (xs i.toNatClampNeg) :: st) h) : zMD l D ad cI cL sz p e s m args below meth cd Q d C S M nc ns pc L (.inl i :: .inr (.inr 104) :: st) h := by
  intro c1 c2 H locs ls hP hS hl
  show W p l e (zRm d C S) s m args below meth cd H locs nc ns Q (F0 m pc ls (.int i :: .ref (ad 104) :: st.map (ztv ad)))
  rw [had]
  exact va_sld hC.1 hC.2.1 hX hb hA hS hi hd (k c1 c2 H locs ls hP hS hl)
theorem p_slen (hC : zC l D ad cI cL M sz p s m args meth cd) {b N : Nat} {xs : Nat → Int32} (hX : va_X b N xs s s.heap) (hb : b < s.heap.size) (hA : ¬ zA ad sz b) (had : ad 104 = b) (hd : decode M.2.1 pc = .ok (.arraylength, 1)) (k : zMD l D ad cI cL sz p e s m args below meth cd Q d C S M nc ns (pc + 1) L (.inl (nI N) :: st) h) : zMD l D ad cI cL sz p e s m args below meth cd Q d C S M nc ns pc L (.inr (.inr 104) :: st) h := by
  intro c1 c2 H locs ls hP hS hl
  show W p l e (zRm d C S) s m args below meth cd H locs nc ns Q (F0 m pc ls (.ref (ad 104) :: st.map (ztv ad)))
  rw [had]
  exact va_slen hC.1 hC.2.1 hX hb hA hS hd (k c1 c2 H locs ls hP hS hl)
theorem p_callW (hC : zC l D ad cI cL M sz p s m args meth cd) {M' : zM} {idx n C' S' : Nat} {As : List zV} {K' : zR → zH → Prop} (hd : decode M.2.1 pc = .ok (.invokestatic idx, 3)) (hl0 : Cond.methodLink M.1.cls idx M'.1 ∈ ztb) (hO : zOkW M' n) (hn : As.length = n) (hw : zwt st ≤ 8) (hsz : L.length = M.2.2.1) (hsp : zSW d C' S' M' As h K') (hc : nc + C' ≤ C) (hs : ns + S' ≤ S)
    (k : ∀ r h', K' (.inl r) h' → zMD l D ad cI cL sz p e s m args below meth cd Q (d + 1) C S M (nc + C') (ns + S') (pc + 3) L (r.toList ++ st) h') : zMD l D ad cI cL sz p e s m args below meth cd Q (d + 1) C S M nc ns pc L (As.reverse ++ st) h := by
  intro c1 c2 H locs ls hP hS hl
  have hM := hsp l D ad cI cL H.size hC.inj hC.flag
  have hst : (As.reverse ++ st).map (ztv ad) = (As.map (ztv ad)).reverse ++ st.map (ztv ad) := by simp
  rw [hst]
  have hl180 := hO.1.2.2.1
  have hww : ∀ w ∈ zwsW M', ∀ (a' : Array Value) (U : State), s.WarmedH U.vm → w.before a' U = true := fun w hw a' U hW => by
    rcases List.mem_cons.mp hw with rfl | hw
    · exact word_at hW (good_of_word (List.mem_filter.mp hO.1.1).2) (hC.word hO.1.1)
    · exact word_at hW (good_of_word (List.mem_filter.mp hw).2) (hC.word hw)
  have hK : Back l (zRm (d + 1) C S) p e below s args M'.1 3 8 (PreOf (zRm (d + 1) C S) C' S' (zPc D ad cI cL H.size As h)) (PostOf (zQ D ad cI cL H.size K') C' S' (zA ad H.size)) :=
    va_backW (hh := zxt M') (bytes := M'.2.1) (maxL := M'.2.2.1) (ret := M'.2.2.2) hM zPc_blind rfl rfl (by show d + 8 + 1 ≤ d + 1 + 8; omega) (by show 8 + (M'.2.2.1 + 11) + 200 * (d + 1) ≤ 200 * (d + 1 + 1); omega) hww List.mem_cons_self (fun a' U hW => word_at hW (good_of_word (List.mem_filter.mp hO.1.2.2.2).2) (hC.word hO.1.2.2.2))
  have hrun : va_Run p l e (zRm (d + 1) C S) s m args below meth cd H locs nc ns C' S' (F0 m pc ls ((As.map (ztv ad)).reverse ++ st.map (ztv ad))) (st.map (ztv ad)) (zQ D ad cI cL H.size K' (As.map (ztv ad)).toArray) (zA ad H.size) := by
    intro T hT X
    obtain ⟨mk, methM, cM, hnamed, hmethM, hcM, -, hlM, -, -, -, hsigM⟩ := Cond.codeWith_spec (hC.word hO.1.1)
    have hy : M'.1.cls ≠ "java/lang/invoke/MethodHandle" ∧ M'.1.cls ≠ "java/lang/invoke/VarHandle" := ⟨hO.1.2.1.1, hO.1.2.1.2.1⟩
    have hstatic : methM.isStatic = true := Cond.static_spec hnamed hmethM (hC.word hO.2)
    obtain ⟨kP, hkP, -⟩ := className_of_methodNamed hnamed
    have hinitP : kP.init = .initialized := Cond.initialized_spec (findClass_of_methodNamed hnamed) hkP (hC.word hO.1.2.2.2)
    have hlen : (As.map (ztv ad)).length = methM.sig.parameters.length := by
      have h2 := hO.1.2.1.2.2
      rw [hsigM] at h2
      rw [List.length_map, hn]
      exact (Option.some.inj h2).symm
    have hdg : decode cd.code pc = .ok (.invokestatic idx, 3) := by rw [hC.2.1]; exact hd
    obtain ⟨vm₁, X₁, hstep₁⟩ := X.invokestatic hC.1 hC.own (hC.word hl0) hnamed hmethM hstatic hkP hinitP hy (g := F0 m pc ls ((As.map (ztv ad)).reverse ++ st.map (ztv ad))) rfl (argsL := As.map (ztv ad)) (rest := st.map (ztv ad)) hlen rfl hdg
    obtain ⟨v, ⟨U', l2, c2', s2'⟩, X', ⟨g', mk', t, Lc, e1, e2, hq, h1, hL, h2, h3⟩, hsteps⟩ := hK m meth cd ⟨T.setVm vm₁, locs, nc, ns⟩ (F0 m pc ls (st.map (ztv ad))) (.invokestatic idx) mk (As.map (ztv ad)).toArray X₁ rfl (by rw [hC.2.2.1, ← hsz]; exact hl.1) hdg (lv_room (by rw [zwt_eq]; exact hw)) (X₁.named hnamed) ⟨hc, hs, zpre (As := As) hC hP hS (T.setVm vm₁) hT X₁.warmed⟩
    dsimp only [Pt.U, Pt.locs, Pt.cells, Pt.slots] at X' e1 e2 h1 h2 h3 hsteps
    subst h1; subst h2; subst h3
    exact ⟨v, (T.setVm vm₁).calling g' mk' (As.map (ztv ad)).toArray, t, U', Lc, hT, X', hL, e1, e2, hq, fun target h => hstep₁ _ fun acts => by rw [doInvoke_state]; exact hsteps.trans h⟩
  refine zrun hrun hC.hsz hS (fun r h' H1 locs1 hk hP1 hS1 => ?_)
  have key := k r h' hk hc hs H1 locs1 ls hP1 hS1 hl
  rw [zret_st] at key
  exact key
end ZP
