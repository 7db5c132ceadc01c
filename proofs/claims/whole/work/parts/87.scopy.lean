/-! a copy out of a static array -/
theorem zclN {z : Int32} (hz : ¬ z < 0) : z.toInt = (z.toNatClampNeg : Int) := by
  have h0 := Int32.le_iff_toInt_le.mp (Int32.not_lt.mp hz)
  rw [show (0 : Int32).toInt = 0 from rfl] at h0
  show z.toInt = ((z.toInt.toNat : Nat) : Int)
  omega
def zcpT (h : zH) (T : Nat → Int32) (q n : Nat) : zH := (fun p => if p = q then va_cpy T (h.1 q) 0 0 n else h.1 p, h.2)
section ZCp
variable {t : Bool} {d nc ns C S : Nat} {M : zM} {K : zR → zH → Prop} {pc : Nat} {L : List (Option zV)} {st : List zV} {h : zH}
theorem r_scopy {idx q0 q1 n1 : Nat} {n : Int32} (hd : decode M.2.1 pc = .ok (.invokestatic idx, 3)) (hln : Cond.methodLink M.1.cls idx arraycopyName ∈ ztb) (hna : Cond.native arraycopyName ∈ ztb) (hst : Cond.static arraycopyName ∈ ztb) (hin : Cond.initialized "java/lang/System" ∈ ztb) (hq0 : q0 = 101 ∨ q0 = 102 ∨ q0 = 103) (hq1 : zS[q1]? = some (.inl (false, n1))) (h3 : ¬ n < 0) (h4 : n.toNatClampNeg ≤ (ztk q0).length) (h5 : n.toNatClampNeg ≤ n1) (hw : zwt st ≤ 8) (hsz : L.length = M.2.2.1) (k : zMC t d nc ns C S M K (pc + 3) L st (zcpT h (fun j => (ztk q0).getD j 0) q1 n.toNatClampNeg)) : zMC t d nc ns C S M K pc L (.inl n :: .inl 0 :: .inr (.inr q1) :: .inl 0 :: .inr (.inr q0) :: st) h := by
  intro c1 c2 l D ad cI cL sz p e s m args below meth cd hC H locs ls hP hS hl
  have hX := hC.stat.tab hq0
  have ha1 := zW_get (ad := ad) (cI := cI) (cL := cL) (h := h) hq1
  have hD := zD (cI := cI) (cL := cL) (h := h) (sz := sz) hC.inj
  intro T hT X
  obtain ⟨scr, b1, b2, b3, b4, -, b5, b6⟩ := hX
  have hc0 : H[ad q0]? = some scr := by rw [hS.2.1 (ad q0) (Array.getElem?_eq_some_iff.mp b1).1 b6]; exact b1
  have hc1 := hP q1 _ ha1
  obtain ⟨g0, k0, hk0, cm0, hkk0⟩ := b2
  obtain ⟨-, k1, hk1, cm1, hkk1⟩ := (hC.K.2 0 (cI, .int) rfl).1 n1 (fun j => .int (h.1 q1 j))
  obtain ⟨vm', X', step⟩ := X.arraycopy hC.1 hC.own (hC.word hln) (hC.word hna) (hC.word hst) (hC.word hin) (src := ad q0) (dst := ad q1) (cs := scr) (cd := vp_cell cI (n1, .inl (h.1 q1))) (srcPos := 0) (destPos := 0) (n := n) (by rw [hT]; exact hc0) (by rw [hT]; exact hc1) g0 (fun _ z => by cases z) b3 (fun z => by cases z) hk0 hk1 hkk0 hkk1 (by simp [refKind]) (by decide) (by decide) h3 (by rw [zclN h3, show (0 : Int32).toInt = 0 from rfl]; omega) (by rw [zclN h3, show (0 : Int32).toInt = 0 from rfl]; show ¬ _ > ((arrV cI n1 (fun j => .int (h.1 q1 j))).slots.size : Int); rw [arrV_size]; omega) (fun vm₁ _ i hi => by
      have e0 : scr.slots.getD ((0 : Int32).toNatClampNeg + i) .null = .int ((ztk q0).getD ((0 : Int32).toNatClampNeg + i) 0) := by
        rw [Array.getD_eq_getD_getElem?, b5 _ (by rw [show (0 : Int32).toNatClampNeg = 0 from rfl]; omega)]
        rfl
      rw [e0]
      exact ⟨rfl, trivial⟩) (g := F0 m pc ls ((.inl n :: .inl 0 :: .inr (.inr q1) :: .inl 0 :: .inr (.inr q0) :: st).map (ztv ad))) rfl (by rw [hC.2.2.1]; exact hl.1.trans hsz) (rest := st.map (ztv ad)) rfl (by rw [hC.2.1]; exact hd) (zRm_f d C S) (by have := zRm_c (d := d) (C := C) (S := S) hw; rw [zwt_eq]; show 2 * 0 + _ + _ ≤ _; omega)
  have e1 : copied scr (vp_cell cI (n1, .inl (h.1 q1))) 0 0 n = vp_cell cI (n1, .inl (va_cpy (fun j => (ztk q0).getD j 0) (h.1 q1) 0 0 n.toNatClampNeg)) := va_copiedX (fun z => .int z) scr cI (fun j => (ztk q0).getD j 0) (h.1 q1) b5 (by show 0 + n.toNatClampNeg ≤ _; omega)
  rw [e1] at X' step
  have hla : ad q1 < H.size := (Array.getElem?_eq_some_iff.mp hc1).1
  have hother : ∀ q : Nat, q ≠ ad q1 → (H.setIfInBounds (ad q1) (vp_cell cI (n1, .inl (va_cpy (fun j => (ztk q0).getD j 0) (h.1 q1) 0 0 n.toNatClampNeg))))[q]? = H[q]? := fun q hq => by simp [Array.getElem?_setIfInBounds, Ne.symm hq]
  have hA1 : zA ad sz (ad q1) := hD.2 q1 _ ha1
  have e2 := zW_set (ad := ad) (cI := cI) (cL := cL) (h := h) (h' := zcpT h (fun j => (ztk q0).getD j 0) q1 n.toNatClampNeg) hq1 (fun p0 hp0 => ⟨by simp [zcpT, hp0], rfl⟩)
  have e3 : (zcpT h (fun j => (ztk q0).getD j 0) q1 n.toNatClampNeg).1 q1 = va_cpy (fun j => (ztk q0).getD j 0) (h.1 q1) 0 0 n.toNatClampNeg := by simp [zcpT]
  simp only [zCell, e3] at e2
  have hhere : (H.setIfInBounds (ad q1) (vp_cell cI (n1, .inl (va_cpy (fun j => (ztk q0).getD j 0) (h.1 q1) 0 0 n.toNatClampNeg))))[ad q1]? = some (vp_cell cI (n1, .inl (va_cpy (fun j => (ztk q0).getD j 0) (h.1 q1) 0 0 n.toNatClampNeg))) := by
    generalize (vp_cell cI (n1, .inl (va_cpy (fun j => (ztk q0).getD j 0) (h.1 q1) 0 0 n.toNatClampNeg))) = cell
    simp [Array.getElem?_setIfInBounds, hla]
  have hP1 : va_P D zcl (List.set (zW ad cI cL h) q1 (ad q1, .inl (cI, n1, .inl (va_cpy (fun j => (ztk q0).getD j 0) (h.1 q1) 0 0 n.toNatClampNeg)))) (H.setIfInBounds (ad q1) (vp_cell cI (n1, .inl (va_cpy (fun j => (ztk q0).getD j 0) (h.1 q1) 0 0 n.toNatClampNeg)))) := hP.set hD ha1 hhere hother
  obtain ⟨u, u1, u2⟩ := k c1 c2 l D ad cI cL sz p e s m args below meth cd hC _ _ ls (by rw [← e2]; exact hP1) ⟨by simp; exact hS.1, fun q w1 w2 => by
      rw [hother q (fun z => w2 (by rw [z]; exact hA1))]
      exact hS.2.1 q w1 w2, fun q hq => by
      rcases List.mem_append.mp hq with z | z
      · exact hS.2.2 q z
      · obtain ⟨y, -, hy⟩ := List.mem_map.mp z
        rw [← hy]
        exact hA1⟩ hl _ (show _ = _ from by rw [← hT]; rfl) X'
  exact ⟨u, step u u1, u2⟩
end ZCp
