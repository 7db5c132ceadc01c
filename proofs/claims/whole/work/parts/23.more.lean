/-! more rows -/
section ZMore
variable {t : Bool} {d nc ns C S : Nat} {M : zM} {K : zR → zH → Prop} {pc : Nat} {L : List (Option zV)} {st : List zV} {h : zH}
theorem r_nm {x : Int32} (k : ∀ y : Int32, y = x → zMC t d nc ns C S M K pc L (.inl y :: st) h) : zMC t d nc ns C S M K pc L (.inl x :: st) h := k x rfl
theorem r_nml {x : Int64} (k : ∀ y : Int64, y = x → zMC t d nc ns C S M K pc L (.inr (.inl y) :: st) h) : zMC t d nc ns C S M K pc L (.inr (.inl x) :: st) h := k x rfl
theorem r_hp {h0 : zH} (e : h = h0) (k : zMC t d nc ns C S M K pc L st h0) : zMC t d nc ns C S M K pc L st h := e ▸ k
theorem r_tp {x y : Int32} (e : x = y) (k : zMC t d nc ns C S M K pc L (.inl y :: st) h) : zMC t d nc ns C S M K pc L (.inl x :: st) h := e ▸ k
theorem r_tpl {x y : Int64} (e : x = y) (k : zMC t d nc ns C S M K pc L (.inr (.inl y) :: st) h) : zMC t d nc ns C S M K pc L (.inr (.inl x) :: st) h := e ▸ k
theorem r_st {L' : List (Option zV)} {st' : List zV} {h' : zH} (e1 : L = L') (e2 : st = st') (e3 : h = h') (k : zMC t d nc ns C S M K pc L' st' h') : zMC t d nc ns C S M K pc L st h := by
  subst e1; subst e2; subst e3; exact k
theorem r_ldcw {idx : Nat} {v : Int32} (hd : decode M.2.1 pc = .ok (.ldc_w idx, 3)) (hc : Cond.constant M.1.cls idx v ∈ ztb) (k : zMC t d nc ns C S M K (pc + 3) L (.inl v :: st) h) : zMC t d nc ns C S M K pc L st h :=
  fun c1 c2 l D ad cI cL sz p e s m args below meth cd hC H locs ls hP hS hl => lv_ldcw hC.1 hC.2.1 hC.own (hC.word hc) hd (k c1 c2 l D ad cI cL sz p e s m args below meth cd hC H locs ls hP hS hl)
end ZMore
/-- reading behind writing -/
theorem zp1 {h : zH} {q k p j : Nat} {v : Int32} : (zput h q k v).1 p j = if p = q ∧ j = k then v else h.1 p j := by
  by_cases hp : p = q
  · subst hp
    rw [zput_at]
    simp [upd]
  · rw [zput_ne hp]
    simp [hp]
theorem zp2 {h : zH} {q k : Nat} {v : Int32} : (zput h q k v).2 = h.2 := rfl
theorem zq1 {h : zH} {q k : Nat} {v : Int64} : (zputL h q k v).1 = h.1 := rfl
theorem zq2 {h : zH} {q k p j : Nat} {v : Int64} : (zputL h q k v).2 p j = if p = q ∧ j = k then v else h.2 p j := by
  by_cases hp : p = q
  · subst hp
    rw [zputL_at]
    simp [vp_updL]
  · rw [zputL_ne hp]
    simp [hp]
theorem zc1 {h : zH} {q0 q1 sp dp n p j : Nat} : (zcpy h q0 q1 sp dp n).1 p j = if p = q1 ∧ dp ≤ j ∧ j < dp + n then h.1 q0 (sp + (j - dp)) else h.1 p j := by
  by_cases hp : p = q1
  · subst hp
    simp [zcpy, va_cpy]
  · simp [zcpy, hp]
theorem zc2 {h : zH} {q0 q1 sp dp n : Nat} : (zcpy h q0 q1 sp dp n).2 = h.2 := rfl
theorem zIi {v a : Int32} {h : zH} (e : v = a) : zI a h (.inl (some (.inl v))) h := ⟨by rw [e], rfl⟩
theorem zJi {v a : Int64} {h : zH} (e : v = a) : zJ a h (.inl (some (.inr (.inl v)))) h := ⟨by rw [e], rfl⟩
theorem zUi {h0 h : zH} (e : h0 = h) : zU h (.inl none) h0 := ⟨rfl, e⟩
theorem zIh {v a : Int32} {h0 h : zH} (e : v = a) (e2 : h0 = h) : zI a h (.inl (some (.inl v))) h0 := ⟨by rw [e], e2⟩
def fBo (b : Bool) : Int32 := if b then 1 else 0
theorem fBo_0 {b : Bool} : fBo b = 0 ↔ b = false := by cases b <;> decide
theorem fBo_01 (b : Bool) : fBo b = 0 ∨ fBo b = 1 := by cases b <;> decide
/-- a weaker end -/
theorem zSP.mono {d C S : Nat} {M : zM} {args : List zV} {h : zH} {K K' : zR → zH → Prop} (hs : zSP d C S M args h K) (hk : ∀ r h', K r h' → K' r h') : zSP d C S M args h K' := by
  intro l D ad cI cL sz hi hf p e ha hc hk2 s m a below hfr happ hP hK
  obtain ⟨n, o, h1, h2, h3, hq, h4⟩ := hs l D ad cI cL sz hi hf p e ha hc hk2 s m a below hfr happ hP hK
  obtain ⟨⟨r, h', q1, q2, q3⟩, q4⟩ := hq
  exact ⟨n, o, h1, h2, h3, ⟨⟨r, h', q1, hk _ _ q2, q3⟩, q4⟩, h4⟩
