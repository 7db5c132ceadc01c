/-! static arrays -/
section ZSt
variable {t : Bool} {d nc ns C S : Nat} {M : zM} {K : zR → zH → Prop} {pc : Nat} {L : List (Option zV)} {st : List zV} {h : zH}
theorem r_gets1 {idx : Nat} (hd : decode M.2.1 pc = .ok (.getstatic idx, 3)) (hl0 : Cond.fieldLink M.1.cls idx "RoundLab" "ONE_THIRD_RULE" "[I" ∈ ztb) (k : zMC t d nc ns C S M K (pc + 3) L (.inr (.inr 101) :: st) h) : zMC t d nc ns C S M K pc L st h :=
  fun c1 c2 l D ad cI cL sz p e s m args below meth cd hC H locs ls hP hS hl => va_gets hC.1 hC.2.1 hC.stat.1.1 hS hC.own (hC.word hl0) (fun _ q => q) hd (k c1 c2 l D ad cI cL sz p e s m args below meth cd hC H locs ls hP hS hl)
theorem r_gets2 {idx : Nat} (hd : decode M.2.1 pc = .ok (.getstatic idx, 3)) (hl0 : Cond.fieldLink M.1.cls idx "RoundLab" "VOTING" "[I" ∈ ztb) (k : zMC t d nc ns C S M K (pc + 3) L (.inr (.inr 102) :: st) h) : zMC t d nc ns C S M K pc L st h :=
  fun c1 c2 l D ad cI cL sz p e s m args below meth cd hC H locs ls hP hS hl => va_gets hC.1 hC.2.1 hC.stat.2.1.1 hS hC.own (hC.word hl0) (fun _ q => q) hd (k c1 c2 l D ad cI cL sz p e s m args below meth cd hC H locs ls hP hS hl)
theorem r_gets3 {idx : Nat} (hd : decode M.2.1 pc = .ok (.getstatic idx, 3)) (hl0 : Cond.fieldLink M.1.cls idx "RoundLab" "VOTING_WITH_A_LEADER" "[I" ∈ ztb) (k : zMC t d nc ns C S M K (pc + 3) L (.inr (.inr 103) :: st) h) : zMC t d nc ns C S M K pc L st h :=
  fun c1 c2 l D ad cI cL sz p e s m args below meth cd hC H locs ls hP hS hl => va_gets hC.1 hC.2.1 hC.stat.2.2.1.1 hS hC.own (hC.word hl0) (fun _ q => q) hd (k c1 c2 l D ad cI cL sz p e s m args below meth cd hC H locs ls hP hS hl)
/-- the three tables by their place -/
def ztk (q : Nat) : List Int32 := if q = 101 then zt1 else if q = 102 then zt2 else zt3
theorem zStH.tab {ad : Nat → Nat} {sz : Nat} {U : State} {H : Heap} (hs : zStH ad sz U H) {q : Nat} (hq : q = 101 ∨ q = 102 ∨ q = 103) : va_T .int (ad q) (ztk q).length (fun j => .int ((ztk q).getD j 0)) (zA ad sz) U H := by
  rcases hq with rfl | rfl | rfl
  · exact hs.1.2
  · exact hs.2.1.2
  · exact hs.2.2.1.2
theorem r_slen {q : Nat} {v : Int32} (hq : q = 101 ∨ q = 102 ∨ q = 103) (hd : decode M.2.1 pc = .ok (.arraylength, 1)) (hv : Int32.ofNat (ztk q).length = v) (k : zMC t d nc ns C S M K (pc + 1) L (.inl v :: st) h) : zMC t d nc ns C S M K pc L (.inr (.inr q) :: st) h :=
  fun c1 c2 l D ad cI cL sz p e s m args below meth cd hC H locs ls hP hS hl => va_tlen hC.1 hC.2.1 (hC.stat.tab hq) hS hv hd (k c1 c2 l D ad cI cL sz p e s m args below meth cd hC H locs ls hP hS hl)
end ZSt
theorem ztk_1 : ztk 101 = wT1 := by decide
theorem ztk_2 : ztk 102 = wT2 := by decide
theorem ztk_3 : ztk 103 = wT3 := by decide
