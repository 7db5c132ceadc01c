/-! what the law's entry gives: classes, statics, texts -/
abbrev zfl : List Cond := flatC (Cond.and given_1 narrow_1)
set_option maxRecDepth 100000 in
theorem zn_1 : (Cond.arrayOf (.static "RoundLab" "ONE_THIRD_RULE" "[I") .int ∈ zfl ∧ Cond.eq (.length (.static "RoundLab" "ONE_THIRD_RULE" "[I")) (.int (Int32.ofNat zt1.length)) ∈ zfl) ∧ (List.range zt1.length).all (fun j => decide (Cond.eq (.elem (.static "RoundLab" "ONE_THIRD_RULE" "[I") (.int (Int32.ofNat j))) (.int (zt1.getD j 0)) ∈ zfl)) = true := by decide +kernel
set_option maxRecDepth 100000 in
theorem zn_2 : (Cond.arrayOf (.static "RoundLab" "VOTING" "[I") .int ∈ zfl ∧ Cond.eq (.length (.static "RoundLab" "VOTING" "[I")) (.int (Int32.ofNat zt2.length)) ∈ zfl) ∧ (List.range zt2.length).all (fun j => decide (Cond.eq (.elem (.static "RoundLab" "VOTING" "[I") (.int (Int32.ofNat j))) (.int (zt2.getD j 0)) ∈ zfl)) = true := by decide +kernel
set_option maxRecDepth 100000 in
theorem zn_3 : (Cond.arrayOf (.static "RoundLab" "VOTING_WITH_A_LEADER" "[I") .int ∈ zfl ∧ Cond.eq (.length (.static "RoundLab" "VOTING_WITH_A_LEADER" "[I")) (.int (Int32.ofNat zt3.length)) ∈ zfl) ∧ (List.range zt3.length).all (fun j => decide (Cond.eq (.elem (.static "RoundLab" "VOTING_WITH_A_LEADER" "[I") (.int (Int32.ofNat j))) (.int (zt3.getD j 0)) ∈ zfl)) = true := by decide +kernel
set_option maxRecDepth 100000 in
theorem zn_4 : zNp.all (fun q => decide (Cond.not (.castable q.1 q.2) ∈ zfl)) = true := by decide +kernel
set_option maxRecDepth 100000 in
theorem zn_5 : Cond.isRef (.static "java/lang/Throwable" "UNASSIGNED_STACK" Bundle.steD) ∈ zfl ∧ Cond.isRef (.static "java/lang/Throwable" "SUPPRESSED_SENTINEL" Bundle.listD) ∈ zfl := by decide +kernel
set_option maxRecDepth 100000 in
theorem zn_6 : Cond.laysStatic "java/lang/Throwable" "UNASSIGNED_STACK" Bundle.steD ∈ lw_tbl ∧ Cond.laysStatic "java/lang/Throwable" "SUPPRESSED_SENTINEL" Bundle.listD ∈ lw_tbl ∧ Cond.laysStatic "RoundLab" "ONE_THIRD_RULE" "[I" ∈ lw_tbl ∧ Cond.laysStatic "RoundLab" "VOTING" "[I" ∈ lw_tbl ∧ Cond.laysStatic "RoundLab" "VOTING_WITH_A_LEADER" "[I" ∈ lw_tbl ∧ Cond.initialized "RoundLab" ∈ lw_tbl ∧ Cond.instantiable "RoundLab" 4 ∈ lw_tbl := by decide +kernel
set_option maxRecDepth 100000 in
theorem zcl_inst : ∀ r ∈ zcl, Cond.instantiable r.1 r.2.2 ∈ ztb := by decide +kernel
section ZE
variable {s : State} {args : Array Value}
/-- a static array of ours: an address, and what it holds, whatever may change elsewhere -/
theorem ze_arr {n : String} {T : List Int32} (hT : T.length < 1000) (hts : ∀ w ∈ lw_tbl, w.before args s = true) (hg : ∀ c ∈ zfl, c.before args s = true) (h1 : (Cond.arrayOf (.static "RoundLab" n "[I") .int ∈ zfl ∧ Cond.eq (.length (.static "RoundLab" n "[I")) (.int (Int32.ofNat T.length)) ∈ zfl) ∧ (List.range T.length).all (fun j => decide (Cond.eq (.elem (.static "RoundLab" n "[I") (.int (Int32.ofNat j))) (.int (T.getD j 0)) ∈ zfl)) = true) (h2 : Cond.laysStatic "RoundLab" n "[I" ∈ lw_tbl) : ∃ a, a < s.heap.size ∧ ∀ A : Nat → Prop, (∀ q, q < s.heap.size → ¬ A q) → va_Z "RoundLab" n "[I" (.ref a) A s s.heap ∧ va_T .int a T.length (fun j => .int (T.getD j 0)) A s s.heap := by
  obtain ⟨a, ha, hTt⟩ := va_Tof (A := fun _ => False) (N := T.length) (f := fun j => .int (T.getD j 0)) (by omega) (hg _ h1.1.1) (va_eqt (hg _ h1.1.2)) (fun j hj => va_eqt (hg _ (of_decide_eq_true (List.all_eq_true.mp h1.2 j (List.mem_range.mpr hj))))) (fun _ _ z => z)
  obtain ⟨cell, c1, c2, c3, c4, c5, c6, -⟩ := hTt
  have hlt := (Array.getElem?_eq_some_iff.mp c1).1
  exact ⟨a, hlt, fun A hA => ⟨va_Zof (hts _ h2) (hts _ zn_6.2.2.2.2.2.1) ha hA, cell, c1, c2, c3, c4, c5, c6, hA a hlt⟩⟩
theorem ze_ts {n dd : String} (hl : (Cond.laysStatic "java/lang/Throwable" n dd).before args s = true) (hr : (Cond.isRef (.static "java/lang/Throwable" n dd)).before args s = true) {A : Nat → Prop} (hA : ∀ q, q < s.heap.size → ¬ A q) : zTs n dd A s s.heap := by
  obtain ⟨c, k, i, f, a, cell, h1, h2, h3, h4, h5, h6, h7, h8, h9⟩ := Cond.laysStatic_spec hl
  obtain ⟨u, hu⟩ := Cond.staticRefV h2 h3 h4 h5 h6 hr
  exact ⟨c, k, i, f, a, cell, u.v, h1, h2, h3, h4, h9, h5, h6, h7, h8, u.ok, hu, hA a (Array.getElem?_eq_some_iff.mp h5).1⟩
theorem ze_nw (hts : ∀ w ∈ lw_tbl, w.before args s = true) (hg : ∀ c ∈ zfl, c.before args s = true) : zNw s := by
  refine ⟨fun w hw hn => va_Nw.of (znest_tab hn) (hts w hw), fun k tx hk => ?_, fun q hq => ?_⟩
  · obtain ⟨c, kc, hc, -⟩ := Cond.instantiable_spec (hts _ zn_6.2.2.2.2.2.2)
    have h1 := hts _ hk
    obtain ⟨-, -, -, a, -, -, -, -, -, he⟩ := Cond.stringRef_spec hc h1
    exact ⟨a, vk_R.of h1 he⟩
  · have h1 := hg _ (of_decide_eq_true (List.all_eq_true.mp zn_4 q hq))
    have hv := Cond.holds_not_iff.mp h1
    simp only [Cond.value] at hv
    cases e1 : s.vm.findClass q.1 with
    | none => simp [e1] at hv
    | some c =>
      cases e2 : s.vm.findClass q.2 with
      | none => simp [e1, e2] at hv
      | some t =>
        simp only [e1, e2] at hv
        exact ⟨c, t, rfl, rfl, Option.some.inj hv⟩
theorem ze_arr1 {ty : FieldType} (h : (Cond.arrayClass ty).before args s = true) : ∃ c, s.vm.findClass ("[" ++ ty.toString) = some c ∧ ArrOfT s c ty := by
  obtain ⟨c, k, comp, h1, h2, h3⟩ := Cond.arrayClass_spec h
  exact ⟨c, h1, fun n z => ⟨fun k h => (by cases h), k, h2, comp, h3⟩⟩
theorem ze_K (hts : ∀ w ∈ ztb, w.before args s = true) : ∃ (D : va_G) (cI cL : ClassId), va_K D zcl (zty cI cL) s := by
  obtain ⟨cI, i1, i2⟩ := ze_arr1 (hts _ zmAi)
  obtain ⟨cL, j1, j2⟩ := ze_arr1 (hts _ zmAl)
  have h0 : ∀ c : Nat, ∃ q : ClassId × (Nat → Nat), ∀ r : vw_C, zcl[c]? = some r → u_Kn s r.1 r.2.1 r.2.2 q.1 q.2 := by
    intro c
    cases e : zcl[c]? with
    | none => exact ⟨(0, fun _ => 0), fun r h => by cases h⟩
    | some r =>
      have hm := List.mem_of_getElem? e
      obtain ⟨cC, iS, hK⟩ := u_known (T := r.2.1) (N := r.2.2) hts (zcl_all r hm) (hts _ (zcl_inst r hm))
      exact ⟨(cC, iS), fun r' h => by cases h; exact hK⟩
  obtain ⟨f, hf⟩ := Classical.axiomOfChoice h0
  refine ⟨(fun c => (f c).1, fun c => (f c).2), cI, cL, fun c r h => hf c r h, fun k q hk => ?_⟩
  match k, hk with
  | 0, hk => cases hk; exact ⟨i2, i1⟩
  | 1, hk => cases hk; exact ⟨j2, j1⟩
  | k + 2, hk => cases hk
end ZE
