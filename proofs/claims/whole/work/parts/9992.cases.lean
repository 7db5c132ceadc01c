section ZLaw
variable {l : Launch} {D : va_G} {ad : Nat → Nat} {cI cL : ClassId} {sz : Nat} {p : Program} {e : Env} {s : State} {m : MethodId} {args : Array Value} {below : List Frame} {meth : Method} {cd : Code} {Q : State → Prop} {C S nc ns b N j : Nat} {xs : Nat → Int32} {h : zH}
theorem ca_word (hG : zLc l D ad cI cL sz p s m args meth cd b N xs) (hN : N ≤ 2560) (hj : 5 * j + 5 ≤ N) (hc : nc + 1 ≤ C) (hs : ns + 6 ≤ S) (hr : zRel h) (next : ∀ (h2 : zH) (k5 k6 : Option zV), zRel h2 → zMD l D ad cI cL sz p e s m args below meth cd Q 42 C S mZ_law (nc + 1) (ns + 6) 978 [some (.inr (.inr 104)), some (.inr (.inr 0)), some (.inr (.inr 27)), some (.inr (.inr 47)), some (.inl (nI (5 * j))), k5, k6] [] h2) : zMD l D ad cI cL sz p e s m args below meth cd Q 42 C S mZ_law nc ns 116 [some (.inr (.inr 104)), some (.inr (.inr 0)), some (.inr (.inr 27)), some (.inr (.inr 47)), some (.inl (nI (5 * j))), none, none] [] h := by
  obtain ⟨hC, hX, hb, hA, had⟩ := hG
  obtain ⟨k, Kc, hsw, hk⟩ := st_word hr (xs (nI (5 * j) + nI 1).toNatClampNeg)
  refine p_aload_n hC (zdk oZ_law_0 25 rfl) rfl rfl ?_
  refine p_aload_n hC (zdk oZ_law_0 26 rfl) rfl rfl ?_
  refine p_iload hC (zdk oZ_law_0 27 rfl) rfl ?_
  refine p_iconst (v := nI 1) hC (zdk oZ_law_0 28 rfl) (by decide) ?_
  refine p_iadd hC (zdk oZ_law_0 29 rfl) ?_
  refine p_sld hC hX hb hA had (zidx (r := 1) (by decide) hj hN) (zdk oZ_law_0 30 rfl) ?_
  refine p_aload_n hC (zdk oZ_law_0 31 rfl) rfl rfl ?_
  refine p_callW (M' := mZ_word) (As := [_, _, _]) (st := []) hC (zdk oZ_law_0 32 rfl) lM_Z_66 wZ_word rfl (Nat.le_of_ble_eq_true rfl) rfl hsw hc hs ?_
  intro r h1 q
  obtain ⟨e1, Kr, hsr, hkr⟩ := hk r h1 q
  subst e1
  show zMD l D ad cI cL sz p e s m args below meth cd Q 42 C S mZ_law (nc + 1) (ns + 6) 127 _ [.inl k] h1
  refine p_istore hC (zdk oZ_law_0 33 rfl) (Nat.le_of_ble_eq_true rfl) rfl ?_
  refine p_aload_n hC (zdk oZ_law_0 34 rfl) rfl rfl ?_
  refine p_aload_n hC (zdk oZ_law_0 35 rfl) rfl rfl ?_
  refine p_iload hC (zdk oZ_law_0 36 rfl) rfl ?_
  refine p_iconst (v := nI 1) hC (zdk oZ_law_0 37 rfl) (by decide) ?_
  refine p_iadd hC (zdk oZ_law_0 38 rfl) ?_
  refine p_sld hC hX hb hA had (zidx (r := 1) (by decide) hj hN) (zdk oZ_law_0 39 rfl) ?_
  refine p_callV (M' := mM_word) (As := [_]) (st := []) hC (zdk oZ_law_0 40 rfl) lM_Z_71 vM_word rfl rfl rfl (Nat.le_of_ble_eq_true rfl) rfl hsr ?_
  intro r2 h2 q2
  obtain ⟨bb, e2, ht, hrel, h47⟩ := hkr r2 h2 q2
  subst e2
  show zMD l D ad cI cL sz p e s m args below meth cd Q 42 C S mZ_law (nc + 1) (ns + 6) 139 _ [.inl bb] h2
  refine p_istore hC (zdk oZ_law_0 41 rfl) (Nat.le_of_ble_eq_true rfl) rfl ?_
  refine p_aload_n hC (zdk oZ_law_0 42 rfl) rfl rfl ?_
  refine p_callV (M' := mM_thrown) (As := []) (st := []) hC (zdk oZ_law_0 43 rfl) lM_Z_72 vM_thrown rfl rfl rfl (Nat.le_of_ble_eq_true rfl) rfl (spM_thrown 41 h2) ?_
  intro r3 h3 q3
  obtain ⟨e3, e4⟩ := q3
  cases e3
  subst e4
  show zMD l D ad cI cL sz p e s m args below meth cd Q 42 C S mZ_law (nc + 1) (ns + 6) 145 _ [.inl (h3.1 27 0)] h3
  refine p_iload hC (zdk oZ_law_0 44 rfl) rfl ?_
  refine p_icmp_eq (tgt := 152) hC (zdk oZ_law_1 0 rfl) (by decide) (fun _ => ?_) (fun q9 => absurd ht q9)
  refine p_iload hC (zdk oZ_law_1 1 rfl) rfl ?_
  refine p_if_ne (tgt := 169) hC (zdk oZ_law_1 2 rfl) (by decide) (fun hk0 => ?_) (fun hk0 => ?_)
  · refine p_goto (tgt := 978) hC (zdk oZ_law_1 10 rfl) (by decide) ?_
    exact next _ _ _ hrel
  · refine p_aload_n hC (zdk oZ_law_1 3 rfl) rfl rfl ?_
    refine p_iconst (v := nI 0) hC (zdk oZ_law_1 4 rfl) (by decide) ?_
    refine p_lald hC (zdk oZ_law_1 5 rfl) rfl (show vp_in (nI 0) 1 from fun z => z.elim (by decide) (by decide)) ?_
    refine p_iload hC (zdk oZ_law_1 6 rfl) rfl ?_
    refine p_i2l hC (zdk oZ_law_1 7 rfl) ?_
    refine p_lcmp hC (zdk oZ_law_1 8 rfl) ?_
    refine p_if_eq (tgt := 169) hC (zdk oZ_law_1 9 rfl) (by decide) (fun _ => ?_) (fun q9 => absurd ((lg0 _ _).mpr (h47 hk0)) q9)
    refine p_goto (tgt := 978) hC (zdk oZ_law_1 10 rfl) (by decide) ?_
    exact next _ _ _ hrel
theorem ca_builtin (hG : zLc l D ad cI cL sz p s m args meth cd b N xs) (hN : N ≤ 2560) (hj : 5 * j + 5 ≤ N) (hc : nc + 1 ≤ C) (hs : ns + 6 ≤ S) (hr : zRel h) (next : ∀ (h2 : zH) (k5 k6 : Option zV), zRel h2 → zMD l D ad cI cL sz p e s m args below meth cd Q 42 C S mZ_law (nc + 1) (ns + 6) 978 [some (.inr (.inr 104)), some (.inr (.inr 0)), some (.inr (.inr 27)), some (.inr (.inr 47)), some (.inl (nI (5 * j))), k5, k6] [] h2) : zMD l D ad cI cL sz p e s m args below meth cd Q 42 C S mZ_law nc ns 172 [some (.inr (.inr 104)), some (.inr (.inr 0)), some (.inr (.inr 27)), some (.inr (.inr 47)), some (.inl (nI (5 * j))), none, none] [] h := by
  obtain ⟨hC, hX, hb, hA, had⟩ := hG
  obtain ⟨k, Kc, hsw, hk⟩ := st_builtin hr (xs (nI (5 * j) + nI 1).toNatClampNeg)
  refine p_aload_n hC (zdk oZ_law_1 11 rfl) rfl rfl ?_
  refine p_aload_n hC (zdk oZ_law_1 12 rfl) rfl rfl ?_
  refine p_iload hC (zdk oZ_law_1 13 rfl) rfl ?_
  refine p_iconst (v := nI 1) hC (zdk oZ_law_1 14 rfl) (by decide) ?_
  refine p_iadd hC (zdk oZ_law_1 15 rfl) ?_
  refine p_sld hC hX hb hA had (zidx (r := 1) (by decide) hj hN) (zdk oZ_law_1 16 rfl) ?_
  refine p_aload_n hC (zdk oZ_law_1 17 rfl) rfl rfl ?_
  refine p_callW (M' := mZ_builtin) (As := [_, _, _]) (st := []) hC (zdk oZ_law_1 18 rfl) lM_Z_75 wZ_builtin rfl (Nat.le_of_ble_eq_true rfl) rfl hsw hc hs ?_
  intro r h1 q
  obtain ⟨e1, Kr, hsr, hkr⟩ := hk r h1 q
  subst e1
  show zMD l D ad cI cL sz p e s m args below meth cd Q 42 C S mZ_law (nc + 1) (ns + 6) 183 _ [.inl k] h1
  refine p_istore hC (zdk oZ_law_1 19 rfl) (Nat.le_of_ble_eq_true rfl) rfl ?_
  refine p_aload_n hC (zdk oZ_law_1 20 rfl) rfl rfl ?_
  refine p_aload_n hC (zdk oZ_law_1 21 rfl) rfl rfl ?_
  refine p_iload hC (zdk oZ_law_1 22 rfl) rfl ?_
  refine p_iconst (v := nI 1) hC (zdk oZ_law_1 23 rfl) (by decide) ?_
  refine p_iadd hC (zdk oZ_law_1 24 rfl) ?_
  refine p_sld hC hX hb hA had (zidx (r := 1) (by decide) hj hN) (zdk oZ_law_1 25 rfl) ?_
  refine p_callV (M' := mM_builtin) (As := [_]) (st := []) hC (zdk oZ_law_1 26 rfl) lM_Z_77 vM_builtin rfl rfl rfl (Nat.le_of_ble_eq_true rfl) rfl hsr ?_
  intro r2 h2 q2
  obtain ⟨bb, e2, ht, hrel, h47⟩ := hkr r2 h2 q2
  subst e2
  show zMD l D ad cI cL sz p e s m args below meth cd Q 42 C S mZ_law (nc + 1) (ns + 6) 195 _ [.inl bb] h2
  refine p_istore hC (zdk oZ_law_1 27 rfl) (Nat.le_of_ble_eq_true rfl) rfl ?_
  refine p_aload_n hC (zdk oZ_law_1 28 rfl) rfl rfl ?_
  refine p_callV (M' := mM_thrown) (As := []) (st := []) hC (zdk oZ_law_1 29 rfl) lM_Z_72 vM_thrown rfl rfl rfl (Nat.le_of_ble_eq_true rfl) rfl (spM_thrown 41 h2) ?_
  intro r3 h3 q3
  obtain ⟨e3, e4⟩ := q3
  cases e3
  subst e4
  show zMD l D ad cI cL sz p e s m args below meth cd Q 42 C S mZ_law (nc + 1) (ns + 6) 201 _ [.inl (h3.1 27 0)] h3
  refine p_iload hC (zdk oZ_law_1 30 rfl) rfl ?_
  refine p_icmp_eq (tgt := 208) hC (zdk oZ_law_1 31 rfl) (by decide) (fun _ => ?_) (fun q9 => absurd ht q9)
  refine p_iload hC (zdk oZ_law_1 32 rfl) rfl ?_
  refine p_if_ne (tgt := 225) hC (zdk oZ_law_1 33 rfl) (by decide) (fun hk0 => ?_) (fun hk0 => ?_)
  · refine p_goto (tgt := 978) hC (zdk oZ_law_1 41 rfl) (by decide) ?_
    exact next _ _ _ hrel
  · refine p_aload_n hC (zdk oZ_law_1 34 rfl) rfl rfl ?_
    refine p_iconst (v := nI 0) hC (zdk oZ_law_1 35 rfl) (by decide) ?_
    refine p_lald hC (zdk oZ_law_1 36 rfl) rfl (show vp_in (nI 0) 1 from fun z => z.elim (by decide) (by decide)) ?_
    refine p_iload hC (zdk oZ_law_1 37 rfl) rfl ?_
    refine p_i2l hC (zdk oZ_law_1 38 rfl) ?_
    refine p_lcmp hC (zdk oZ_law_1 39 rfl) ?_
    refine p_if_eq (tgt := 225) hC (zdk oZ_law_1 40 rfl) (by decide) (fun _ => ?_) (fun q9 => absurd ((lg0 _ _).mpr (h47 hk0)) q9)
    refine p_goto (tgt := 978) hC (zdk oZ_law_1 41 rfl) (by decide) ?_
    exact next _ _ _ hrel
theorem ca_clear (hG : zLc l D ad cI cL sz p s m args meth cd b N xs) (hN : N ≤ 2560) (hj : 5 * j + 5 ≤ N) (hc : nc + 1 ≤ C) (hs : ns + 6 ≤ S) (hr : zRel h) (next : ∀ (h2 : zH) (k5 k6 : Option zV), zRel h2 → zMD l D ad cI cL sz p e s m args below meth cd Q 42 C S mZ_law (nc + 1) (ns + 6) 978 [some (.inr (.inr 104)), some (.inr (.inr 0)), some (.inr (.inr 27)), some (.inr (.inr 47)), some (.inl (nI (5 * j))), k5, k6] [] h2) : zMD l D ad cI cL sz p e s m args below meth cd Q 42 C S mZ_law nc ns 228 [some (.inr (.inr 104)), some (.inr (.inr 0)), some (.inr (.inr 27)), some (.inr (.inr 47)), some (.inl (nI (5 * j))), none, none] [] h := by
  obtain ⟨hC, hX, hb, hA, had⟩ := hG
  obtain ⟨Kc, hsw, hk⟩ := st_clear hr
  refine p_aload_n hC (zdk oZ_law_1 42 rfl) rfl rfl ?_
  refine p_callV (M' := mL_clear) (As := []) (st := []) hC (zdk oZ_law_1 43 rfl) lM_Z_78 vL_clear rfl rfl rfl (Nat.le_of_ble_eq_true rfl) rfl hsw ?_
  intro r h1 q
  obtain ⟨a, e1, Kr, hsr, hkr⟩ := hk r h1 q
  subst e1
  show zMD l D ad cI cL sz p e s m args below meth cd Q 42 C S mZ_law nc ns 232 _ [.inl a] h1
  refine p_aload_n hC (zdk oZ_law_1 44 rfl) rfl rfl ?_
  refine p_callV (M' := mM_clear) (As := []) (st := [.inl a]) hC (zdk oZ_law_2 0 rfl) lM_Z_81 vM_clear rfl rfl rfl (Nat.le_of_ble_eq_true rfl) rfl hsr ?_
  intro r2 h2 q2
  obtain ⟨e2, hrel⟩ := hkr r2 h2 q2
  subst e2
  show zMD l D ad cI cL sz p e s m args below meth cd Q 42 C S mZ_law nc ns 236 _ [.inl a, .inl a] h2
  refine p_icmp_eq (tgt := 978) hC (zdk oZ_law_2 1 rfl) (by decide) (fun _ => ?_) (fun q9 => absurd rfl q9)
  exact fun z1 z2 H locs ls hP hS hl => W.widen (k := nc + 1) (n := ns + 6) (by omega) (by omega) (next h2 none none hrel hc hs H locs ls hP hS hl)
theorem ca_check (hG : zLc l D ad cI cL sz p s m args meth cd b N xs) (hN : N ≤ 2560) (hj : 5 * j + 5 ≤ N) (hc : nc + 1 ≤ C) (hs : ns + 6 ≤ S) (hr : zRel h) (next : ∀ (h2 : zH) (k5 k6 : Option zV), zRel h2 → zMD l D ad cI cL sz p e s m args below meth cd Q 42 C S mZ_law (nc + 1) (ns + 6) 978 [some (.inr (.inr 104)), some (.inr (.inr 0)), some (.inr (.inr 27)), some (.inr (.inr 47)), some (.inl (nI (5 * j))), k5, k6] [] h2) : zMD l D ad cI cL sz p e s m args below meth cd Q 42 C S mZ_law nc ns 241 [some (.inr (.inr 104)), some (.inr (.inr 0)), some (.inr (.inr 27)), some (.inr (.inr 47)), some (.inl (nI (5 * j))), none, none] [] h := by
  obtain ⟨hC, hX, hb, hA, had⟩ := hG
  obtain ⟨Kc, hsw, hk⟩ := st_check hr
  refine p_aload_n hC (zdk oZ_law_2 2 rfl) rfl rfl ?_
  refine p_callV (M' := mL_check) (As := []) (st := []) hC (zdk oZ_law_2 3 rfl) lM_Z_82 vL_check rfl rfl rfl (Nat.le_of_ble_eq_true rfl) rfl hsw ?_
  intro r h1 q
  obtain ⟨a, e1, Kr, hsr, hkr⟩ := hk r h1 q
  subst e1
  show zMD l D ad cI cL sz p e s m args below meth cd Q 42 C S mZ_law nc ns 245 _ [.inl a] h1
  refine p_aload_n hC (zdk oZ_law_2 4 rfl) rfl rfl ?_
  refine p_callV (M' := mM_check) (As := []) (st := [.inl a]) hC (zdk oZ_law_2 5 rfl) lM_Z_85 vM_check rfl rfl rfl (Nat.le_of_ble_eq_true rfl) rfl hsr ?_
  intro r2 h2 q2
  obtain ⟨e2, hrel⟩ := hkr r2 h2 q2
  subst e2
  show zMD l D ad cI cL sz p e s m args below meth cd Q 42 C S mZ_law nc ns 249 _ [.inl a, .inl a] h2
  refine p_icmp_eq (tgt := 978) hC (zdk oZ_law_2 6 rfl) (by decide) (fun _ => ?_) (fun q9 => absurd rfl q9)
  exact fun z1 z2 H locs ls hP hS hl => W.widen (k := nc + 1) (n := ns + 6) (by omega) (by omega) (next h2 none none hrel hc hs H locs ls hP hS hl)
theorem ca_deep (hG : zLc l D ad cI cL sz p s m args meth cd b N xs) (hN : N ≤ 2560) (hj : 5 * j + 5 ≤ N) (hc : nc + 1 ≤ C) (hs : ns + 6 ≤ S) (hr : zRel h) (next : ∀ (h2 : zH) (k5 k6 : Option zV), zRel h2 → zMD l D ad cI cL sz p e s m args below meth cd Q 42 C S mZ_law (nc + 1) (ns + 6) 978 [some (.inr (.inr 104)), some (.inr (.inr 0)), some (.inr (.inr 27)), some (.inr (.inr 47)), some (.inl (nI (5 * j))), k5, k6] [] h2) : zMD l D ad cI cL sz p e s m args below meth cd Q 42 C S mZ_law nc ns 254 [some (.inr (.inr 104)), some (.inr (.inr 0)), some (.inr (.inr 27)), some (.inr (.inr 47)), some (.inl (nI (5 * j))), none, none] [] h := by
  obtain ⟨hC, hX, hb, hA, had⟩ := hG
  obtain ⟨k, Kc, hsw, hk⟩ := st_deep hr (xs (nI (5 * j) + nI 1).toNatClampNeg) (xs (nI (5 * j) + nI 2).toNatClampNeg)
  refine p_aload_n hC (zdk oZ_law_2 7 rfl) rfl rfl ?_
  refine p_aload_n hC (zdk oZ_law_2 8 rfl) rfl rfl ?_
  refine p_iload hC (zdk oZ_law_2 9 rfl) rfl ?_
  refine p_iconst (v := nI 1) hC (zdk oZ_law_2 10 rfl) (by decide) ?_
  refine p_iadd hC (zdk oZ_law_2 11 rfl) ?_
  refine p_sld hC hX hb hA had (zidx (r := 1) (by decide) hj hN) (zdk oZ_law_2 12 rfl) ?_
  refine p_aload_n hC (zdk oZ_law_2 13 rfl) rfl rfl ?_
  refine p_iload hC (zdk oZ_law_2 14 rfl) rfl ?_
  refine p_iconst (v := nI 2) hC (zdk oZ_law_2 15 rfl) (by decide) ?_
  refine p_iadd hC (zdk oZ_law_2 16 rfl) ?_
  refine p_sld hC hX hb hA had (zidx (r := 2) (by decide) hj hN) (zdk oZ_law_2 17 rfl) ?_
  refine p_aload_n hC (zdk oZ_law_2 18 rfl) rfl rfl ?_
  refine p_callW (M' := mZ_deep) (As := [_, _, _, _]) (st := []) hC (zdk oZ_law_2 19 rfl) lM_Z_86 wZ_deep rfl (Nat.le_of_ble_eq_true rfl) rfl hsw hc hs ?_
  intro r h1 q
  obtain ⟨e1, Kr, hsr, hkr⟩ := hk r h1 q
  subst e1
  show zMD l D ad cI cL sz p e s m args below meth cd Q 42 C S mZ_law (nc + 1) (ns + 6) 271 _ [.inl k] h1
  refine p_istore hC (zdk oZ_law_2 20 rfl) (Nat.le_of_ble_eq_true rfl) rfl ?_
  refine p_aload_n hC (zdk oZ_law_2 21 rfl) rfl rfl ?_
  refine p_aload_n hC (zdk oZ_law_2 22 rfl) rfl rfl ?_
  refine p_iload hC (zdk oZ_law_2 23 rfl) rfl ?_
  refine p_iconst (v := nI 1) hC (zdk oZ_law_2 24 rfl) (by decide) ?_
  refine p_iadd hC (zdk oZ_law_2 25 rfl) ?_
  refine p_sld hC hX hb hA had (zidx (r := 1) (by decide) hj hN) (zdk oZ_law_2 26 rfl) ?_
  refine p_aload_n hC (zdk oZ_law_2 27 rfl) rfl rfl ?_
  refine p_iload hC (zdk oZ_law_2 28 rfl) rfl ?_
  refine p_iconst (v := nI 2) hC (zdk oZ_law_2 29 rfl) (by decide) ?_
  refine p_iadd hC (zdk oZ_law_2 30 rfl) ?_
  refine p_sld hC hX hb hA had (zidx (r := 2) (by decide) hj hN) (zdk oZ_law_2 31 rfl) ?_
  refine p_callV (M' := mM_deep) (As := [_, _]) (st := []) hC (zdk oZ_law_2 32 rfl) lM_Z_89 vM_deep rfl rfl rfl (Nat.le_of_ble_eq_true rfl) rfl hsr ?_
  intro r2 h2 q2
  obtain ⟨bb, e2, ht, hrel, h47⟩ := hkr r2 h2 q2
  subst e2
  show zMD l D ad cI cL sz p e s m args below meth cd Q 42 C S mZ_law (nc + 1) (ns + 6) 289 _ [.inl bb] h2
  refine p_istore hC (zdk oZ_law_2 33 rfl) (Nat.le_of_ble_eq_true rfl) rfl ?_
  refine p_aload_n hC (zdk oZ_law_2 34 rfl) rfl rfl ?_
  refine p_callV (M' := mM_thrown) (As := []) (st := []) hC (zdk oZ_law_2 35 rfl) lM_Z_72 vM_thrown rfl rfl rfl (Nat.le_of_ble_eq_true rfl) rfl (spM_thrown 41 h2) ?_
  intro r3 h3 q3
  obtain ⟨e3, e4⟩ := q3
  cases e3
  subst e4
  show zMD l D ad cI cL sz p e s m args below meth cd Q 42 C S mZ_law (nc + 1) (ns + 6) 295 _ [.inl (h3.1 27 0)] h3
  refine p_iload hC (zdk oZ_law_2 36 rfl) rfl ?_
  refine p_icmp_eq (tgt := 302) hC (zdk oZ_law_2 37 rfl) (by decide) (fun _ => ?_) (fun q9 => absurd ht q9)
  refine p_iload hC (zdk oZ_law_2 38 rfl) rfl ?_
  refine p_if_ne (tgt := 319) hC (zdk oZ_law_2 39 rfl) (by decide) (fun hk0 => ?_) (fun hk0 => ?_)
  · refine p_goto (tgt := 978) hC (zdk oZ_law_3 2 rfl) (by decide) ?_
    exact next _ _ _ hrel
  · refine p_aload_n hC (zdk oZ_law_2 40 rfl) rfl rfl ?_
    refine p_iconst (v := nI 0) hC (zdk oZ_law_2 41 rfl) (by decide) ?_
    refine p_lald hC (zdk oZ_law_2 42 rfl) rfl (show vp_in (nI 0) 1 from fun z => z.elim (by decide) (by decide)) ?_
    refine p_iload hC (zdk oZ_law_2 43 rfl) rfl ?_
    refine p_i2l hC (zdk oZ_law_2 44 rfl) ?_
    refine p_lcmp hC (zdk oZ_law_3 0 rfl) ?_
    refine p_if_eq (tgt := 319) hC (zdk oZ_law_3 1 rfl) (by decide) (fun _ => ?_) (fun q9 => absurd ((lg0 _ _).mpr (h47 hk0)) q9)
    refine p_goto (tgt := 978) hC (zdk oZ_law_3 2 rfl) (by decide) ?_
    exact next _ _ _ hrel
theorem ca_input (hG : zLc l D ad cI cL sz p s m args meth cd b N xs) (hN : N ≤ 2560) (hj : 5 * j + 5 ≤ N) (hc : nc + 1 ≤ C) (hs : ns + 6 ≤ S) (hr : zRel h) (next : ∀ (h2 : zH) (k5 k6 : Option zV), zRel h2 → zMD l D ad cI cL sz p e s m args below meth cd Q 42 C S mZ_law (nc + 1) (ns + 6) 978 [some (.inr (.inr 104)), some (.inr (.inr 0)), some (.inr (.inr 27)), some (.inr (.inr 47)), some (.inl (nI (5 * j))), k5, k6] [] h2) : zMD l D ad cI cL sz p e s m args below meth cd Q 42 C S mZ_law nc ns 322 [some (.inr (.inr 104)), some (.inr (.inr 0)), some (.inr (.inr 27)), some (.inr (.inr 47)), some (.inl (nI (5 * j))), none, none] [] h := by
  obtain ⟨hC, hX, hb, hA, had⟩ := hG
  obtain ⟨k, Kc, hsw, hk⟩ := st_input hr (xs (nI (5 * j) + nI 1).toNatClampNeg) (xs (nI (5 * j) + nI 2).toNatClampNeg)
  refine p_aload_n hC (zdk oZ_law_3 3 rfl) rfl rfl ?_
  refine p_aload_n hC (zdk oZ_law_3 4 rfl) rfl rfl ?_
  refine p_iload hC (zdk oZ_law_3 5 rfl) rfl ?_
  refine p_iconst (v := nI 1) hC (zdk oZ_law_3 6 rfl) (by decide) ?_
  refine p_iadd hC (zdk oZ_law_3 7 rfl) ?_
  refine p_sld hC hX hb hA had (zidx (r := 1) (by decide) hj hN) (zdk oZ_law_3 8 rfl) ?_
  refine p_aload_n hC (zdk oZ_law_3 9 rfl) rfl rfl ?_
  refine p_iload hC (zdk oZ_law_3 10 rfl) rfl ?_
  refine p_iconst (v := nI 2) hC (zdk oZ_law_3 11 rfl) (by decide) ?_
  refine p_iadd hC (zdk oZ_law_3 12 rfl) ?_
  refine p_sld hC hX hb hA had (zidx (r := 2) (by decide) hj hN) (zdk oZ_law_3 13 rfl) ?_
  refine p_aload_n hC (zdk oZ_law_3 14 rfl) rfl rfl ?_
  refine p_callW (M' := mZ_input) (As := [_, _, _, _]) (st := []) hC (zdk oZ_law_3 15 rfl) lM_Z_90 wZ_input rfl (Nat.le_of_ble_eq_true rfl) rfl hsw hc hs ?_
  intro r h1 q
  obtain ⟨e1, Kr, hsr, hkr⟩ := hk r h1 q
  subst e1
  show zMD l D ad cI cL sz p e s m args below meth cd Q 42 C S mZ_law (nc + 1) (ns + 6) 339 _ [.inl k] h1
  refine p_istore hC (zdk oZ_law_3 16 rfl) (Nat.le_of_ble_eq_true rfl) rfl ?_
  refine p_aload_n hC (zdk oZ_law_3 17 rfl) rfl rfl ?_
  refine p_aload_n hC (zdk oZ_law_3 18 rfl) rfl rfl ?_
  refine p_iload hC (zdk oZ_law_3 19 rfl) rfl ?_
  refine p_iconst (v := nI 1) hC (zdk oZ_law_3 20 rfl) (by decide) ?_
  refine p_iadd hC (zdk oZ_law_3 21 rfl) ?_
  refine p_sld hC hX hb hA had (zidx (r := 1) (by decide) hj hN) (zdk oZ_law_3 22 rfl) ?_
  refine p_aload_n hC (zdk oZ_law_3 23 rfl) rfl rfl ?_
  refine p_iload hC (zdk oZ_law_3 24 rfl) rfl ?_
  refine p_iconst (v := nI 2) hC (zdk oZ_law_3 25 rfl) (by decide) ?_
  refine p_iadd hC (zdk oZ_law_3 26 rfl) ?_
  refine p_sld hC hX hb hA had (zidx (r := 2) (by decide) hj hN) (zdk oZ_law_3 27 rfl) ?_
  refine p_callV (M' := mM_input) (As := [_, _]) (st := []) hC (zdk oZ_law_3 28 rfl) lM_Z_92 vM_input rfl rfl rfl (Nat.le_of_ble_eq_true rfl) rfl hsr ?_
  intro r2 h2 q2
  obtain ⟨bb, e2, ht, hrel, h47⟩ := hkr r2 h2 q2
  subst e2
  show zMD l D ad cI cL sz p e s m args below meth cd Q 42 C S mZ_law (nc + 1) (ns + 6) 357 _ [.inl bb] h2
  refine p_istore hC (zdk oZ_law_3 29 rfl) (Nat.le_of_ble_eq_true rfl) rfl ?_
  refine p_aload_n hC (zdk oZ_law_3 30 rfl) rfl rfl ?_
  refine p_callV (M' := mM_thrown) (As := []) (st := []) hC (zdk oZ_law_3 31 rfl) lM_Z_72 vM_thrown rfl rfl rfl (Nat.le_of_ble_eq_true rfl) rfl (spM_thrown 41 h2) ?_
  intro r3 h3 q3
  obtain ⟨e3, e4⟩ := q3
  cases e3
  subst e4
  show zMD l D ad cI cL sz p e s m args below meth cd Q 42 C S mZ_law (nc + 1) (ns + 6) 363 _ [.inl (h3.1 27 0)] h3
  refine p_iload hC (zdk oZ_law_3 32 rfl) rfl ?_
  refine p_icmp_eq (tgt := 370) hC (zdk oZ_law_3 33 rfl) (by decide) (fun _ => ?_) (fun q9 => absurd ht q9)
  refine p_iload hC (zdk oZ_law_3 34 rfl) rfl ?_
  refine p_if_ne (tgt := 387) hC (zdk oZ_law_3 35 rfl) (by decide) (fun hk0 => ?_) (fun hk0 => ?_)
  · refine p_goto (tgt := 978) hC (zdk oZ_law_3 43 rfl) (by decide) ?_
    exact next _ _ _ hrel
  · refine p_aload_n hC (zdk oZ_law_3 36 rfl) rfl rfl ?_
    refine p_iconst (v := nI 0) hC (zdk oZ_law_3 37 rfl) (by decide) ?_
    refine p_lald hC (zdk oZ_law_3 38 rfl) rfl (show vp_in (nI 0) 1 from fun z => z.elim (by decide) (by decide)) ?_
    refine p_iload hC (zdk oZ_law_3 39 rfl) rfl ?_
    refine p_i2l hC (zdk oZ_law_3 40 rfl) ?_
    refine p_lcmp hC (zdk oZ_law_3 41 rfl) ?_
    refine p_if_eq (tgt := 387) hC (zdk oZ_law_3 42 rfl) (by decide) (fun _ => ?_) (fun q9 => absurd ((lg0 _ _).mpr (h47 hk0)) q9)
    refine p_goto (tgt := 978) hC (zdk oZ_law_3 43 rfl) (by decide) ?_
    exact next _ _ _ hrel
theorem ca_start (hG : zLc l D ad cI cL sz p s m args meth cd b N xs) (hN : N ≤ 2560) (hj : 5 * j + 5 ≤ N) (hc : nc + 1 ≤ C) (hs : ns + 6 ≤ S) (hr : zRel h) (next : ∀ (h2 : zH) (k5 k6 : Option zV), zRel h2 → zMD l D ad cI cL sz p e s m args below meth cd Q 42 C S mZ_law (nc + 1) (ns + 6) 978 [some (.inr (.inr 104)), some (.inr (.inr 0)), some (.inr (.inr 27)), some (.inr (.inr 47)), some (.inl (nI (5 * j))), k5, k6] [] h2) : zMD l D ad cI cL sz p e s m args below meth cd Q 42 C S mZ_law nc ns 390 [some (.inr (.inr 104)), some (.inr (.inr 0)), some (.inr (.inr 27)), some (.inr (.inr 47)), some (.inl (nI (5 * j))), none, none] [] h := by
  obtain ⟨hC, hX, hb, hA, had⟩ := hG
  obtain ⟨k, Kc, hsw, hk⟩ := st_start hr (xs (nI (5 * j) + nI 1).toNatClampNeg)
  refine p_aload_n hC (zdk oZ_law_3 44 rfl) rfl rfl ?_
  refine p_aload_n hC (zdk oZ_law_4 0 rfl) rfl rfl ?_
  refine p_iload hC (zdk oZ_law_4 1 rfl) rfl ?_
  refine p_iconst (v := nI 1) hC (zdk oZ_law_4 2 rfl) (by decide) ?_
  refine p_iadd hC (zdk oZ_law_4 3 rfl) ?_
  refine p_sld hC hX hb hA had (zidx (r := 1) (by decide) hj hN) (zdk oZ_law_4 4 rfl) ?_
  refine p_callW (M' := mZ_start) (As := [_, _]) (st := []) hC (zdk oZ_law_4 5 rfl) lM_Z_93 wZ_start rfl (Nat.le_of_ble_eq_true rfl) rfl hsw hc hs ?_
  intro r h1 q
  obtain ⟨e1, Kr, hsr, hkr⟩ := hk r h1 q
  subst e1
  show zMD l D ad cI cL sz p e s m args below meth cd Q 42 C S mZ_law (nc + 1) (ns + 6) 400 _ [.inl k] h1
  refine p_istore hC (zdk oZ_law_4 6 rfl) (Nat.le_of_ble_eq_true rfl) rfl ?_
  refine p_aload_n hC (zdk oZ_law_4 7 rfl) rfl rfl ?_
  refine p_aload_n hC (zdk oZ_law_4 8 rfl) rfl rfl ?_
  refine p_iload hC (zdk oZ_law_4 9 rfl) rfl ?_
  refine p_iconst (v := nI 1) hC (zdk oZ_law_4 10 rfl) (by decide) ?_
  refine p_iadd hC (zdk oZ_law_4 11 rfl) ?_
  refine p_sld hC hX hb hA had (zidx (r := 1) (by decide) hj hN) (zdk oZ_law_4 12 rfl) ?_
  refine p_callV (M' := mM_start) (As := [_]) (st := []) hC (zdk oZ_law_4 13 rfl) lM_Z_96 vM_start rfl rfl rfl (Nat.le_of_ble_eq_true rfl) rfl hsr ?_
  intro r2 h2 q2
  obtain ⟨e2, ht, hrel⟩ := hkr r2 h2 q2
  subst e2
  show zMD l D ad cI cL sz p e s m args below meth cd Q 42 C S mZ_law (nc + 1) (ns + 6) 412 _ [] h2
  refine p_aload_n hC (zdk oZ_law_4 14 rfl) rfl rfl ?_
  refine p_callV (M' := mM_thrown) (As := []) (st := []) hC (zdk oZ_law_4 15 rfl) lM_Z_72 vM_thrown rfl rfl rfl (Nat.le_of_ble_eq_true rfl) rfl (spM_thrown 41 h2) ?_
  intro r3 h3 q3
  obtain ⟨e3, e4⟩ := q3
  cases e3
  subst e4
  show zMD l D ad cI cL sz p e s m args below meth cd Q 42 C S mZ_law (nc + 1) (ns + 6) 416 _ [.inl (h3.1 27 0)] h3
  refine p_iload hC (zdk oZ_law_4 16 rfl) rfl ?_
  refine p_icmp_eq (tgt := 423) hC (zdk oZ_law_4 17 rfl) (by decide) (fun _ => ?_) (fun q9 => absurd ht q9)
  refine p_goto (tgt := 978) hC (zdk oZ_law_4 18 rfl) (by decide) ?_
  exact next _ _ _ hrel
theorem ca_hear (hG : zLc l D ad cI cL sz p s m args meth cd b N xs) (hN : N ≤ 2560) (hj : 5 * j + 5 ≤ N) (hc : nc + 1 ≤ C) (hs : ns + 6 ≤ S) (hr : zRel h) (next : ∀ (h2 : zH) (k5 k6 : Option zV), zRel h2 → zMD l D ad cI cL sz p e s m args below meth cd Q 42 C S mZ_law (nc + 1) (ns + 6) 978 [some (.inr (.inr 104)), some (.inr (.inr 0)), some (.inr (.inr 27)), some (.inr (.inr 47)), some (.inl (nI (5 * j))), k5, k6] [] h2) : zMD l D ad cI cL sz p e s m args below meth cd Q 42 C S mZ_law nc ns 426 [some (.inr (.inr 104)), some (.inr (.inr 0)), some (.inr (.inr 27)), some (.inr (.inr 47)), some (.inl (nI (5 * j))), none, none] [] h := by
  obtain ⟨hC, hX, hb, hA, had⟩ := hG
  obtain ⟨k, Kc, hsw, hk⟩ := st_hear hr (xs (nI (5 * j) + nI 1).toNatClampNeg) (xs (nI (5 * j) + nI 2).toNatClampNeg)
  refine p_aload_n hC (zdk oZ_law_4 19 rfl) rfl rfl ?_
  refine p_aload_n hC (zdk oZ_law_4 20 rfl) rfl rfl ?_
  refine p_iload hC (zdk oZ_law_4 21 rfl) rfl ?_
  refine p_iconst (v := nI 1) hC (zdk oZ_law_4 22 rfl) (by decide) ?_
  refine p_iadd hC (zdk oZ_law_4 23 rfl) ?_
  refine p_sld hC hX hb hA had (zidx (r := 1) (by decide) hj hN) (zdk oZ_law_4 24 rfl) ?_
  refine p_aload_n hC (zdk oZ_law_4 25 rfl) rfl rfl ?_
  refine p_iload hC (zdk oZ_law_4 26 rfl) rfl ?_
  refine p_iconst (v := nI 2) hC (zdk oZ_law_4 27 rfl) (by decide) ?_
  refine p_iadd hC (zdk oZ_law_4 28 rfl) ?_
  refine p_sld hC hX hb hA had (zidx (r := 2) (by decide) hj hN) (zdk oZ_law_4 29 rfl) ?_
  refine p_aload_n hC (zdk oZ_law_4 30 rfl) rfl rfl ?_
  refine p_callW (M' := mZ_hear) (As := [_, _, _, _]) (st := []) hC (zdk oZ_law_4 31 rfl) lM_Z_97 wZ_hear rfl (Nat.le_of_ble_eq_true rfl) rfl hsw hc hs ?_
  intro r h1 q
  obtain ⟨e1, Kr, hsr, hkr⟩ := hk r h1 q
  subst e1
  show zMD l D ad cI cL sz p e s m args below meth cd Q 42 C S mZ_law (nc + 1) (ns + 6) 443 _ [.inl k] h1
  refine p_istore hC (zdk oZ_law_4 32 rfl) (Nat.le_of_ble_eq_true rfl) rfl ?_
  refine p_aload_n hC (zdk oZ_law_4 33 rfl) rfl rfl ?_
  refine p_aload_n hC (zdk oZ_law_4 34 rfl) rfl rfl ?_
  refine p_iload hC (zdk oZ_law_4 35 rfl) rfl ?_
  refine p_iconst (v := nI 1) hC (zdk oZ_law_4 36 rfl) (by decide) ?_
  refine p_iadd hC (zdk oZ_law_4 37 rfl) ?_
  refine p_sld hC hX hb hA had (zidx (r := 1) (by decide) hj hN) (zdk oZ_law_4 38 rfl) ?_
  refine p_aload_n hC (zdk oZ_law_4 39 rfl) rfl rfl ?_
  refine p_iload hC (zdk oZ_law_4 40 rfl) rfl ?_
  refine p_iconst (v := nI 2) hC (zdk oZ_law_4 41 rfl) (by decide) ?_
  refine p_iadd hC (zdk oZ_law_4 42 rfl) ?_
  refine p_sld hC hX hb hA had (zidx (r := 2) (by decide) hj hN) (zdk oZ_law_4 43 rfl) ?_
  refine p_callV (M' := mM_hear) (As := [_, _]) (st := []) hC (zdk oZ_law_4 44 rfl) lM_Z_99 vM_hear rfl rfl rfl (Nat.le_of_ble_eq_true rfl) rfl hsr ?_
  intro r2 h2 q2
  obtain ⟨bb, e2, ht, hrel, h47⟩ := hkr r2 h2 q2
  subst e2
  show zMD l D ad cI cL sz p e s m args below meth cd Q 42 C S mZ_law (nc + 1) (ns + 6) 461 _ [.inl bb] h2
  refine p_istore hC (zdk oZ_law_5 0 rfl) (Nat.le_of_ble_eq_true rfl) rfl ?_
  refine p_aload_n hC (zdk oZ_law_5 1 rfl) rfl rfl ?_
  refine p_callV (M' := mM_thrown) (As := []) (st := []) hC (zdk oZ_law_5 2 rfl) lM_Z_72 vM_thrown rfl rfl rfl (Nat.le_of_ble_eq_true rfl) rfl (spM_thrown 41 h2) ?_
  intro r3 h3 q3
  obtain ⟨e3, e4⟩ := q3
  cases e3
  subst e4
  show zMD l D ad cI cL sz p e s m args below meth cd Q 42 C S mZ_law (nc + 1) (ns + 6) 467 _ [.inl (h3.1 27 0)] h3
  refine p_iload hC (zdk oZ_law_5 3 rfl) rfl ?_
  refine p_icmp_eq (tgt := 474) hC (zdk oZ_law_5 4 rfl) (by decide) (fun _ => ?_) (fun q9 => absurd ht q9)
  refine p_iload hC (zdk oZ_law_5 5 rfl) rfl ?_
  refine p_if_ne (tgt := 491) hC (zdk oZ_law_5 6 rfl) (by decide) (fun hk0 => ?_) (fun hk0 => ?_)
  · refine p_goto (tgt := 978) hC (zdk oZ_law_5 14 rfl) (by decide) ?_
    exact next _ _ _ hrel
  · refine p_aload_n hC (zdk oZ_law_5 7 rfl) rfl rfl ?_
    refine p_iconst (v := nI 0) hC (zdk oZ_law_5 8 rfl) (by decide) ?_
    refine p_lald hC (zdk oZ_law_5 9 rfl) rfl (show vp_in (nI 0) 1 from fun z => z.elim (by decide) (by decide)) ?_
    refine p_iload hC (zdk oZ_law_5 10 rfl) rfl ?_
    refine p_i2l hC (zdk oZ_law_5 11 rfl) ?_
    refine p_lcmp hC (zdk oZ_law_5 12 rfl) ?_
    refine p_if_eq (tgt := 491) hC (zdk oZ_law_5 13 rfl) (by decide) (fun _ => ?_) (fun q9 => absurd ((lg0 _ _).mpr (h47 hk0)) q9)
    refine p_goto (tgt := 978) hC (zdk oZ_law_5 14 rfl) (by decide) ?_
    exact next _ _ _ hrel
theorem ca_round (hG : zLc l D ad cI cL sz p s m args meth cd b N xs) (hN : N ≤ 2560) (hj : 5 * j + 5 ≤ N) (hc : nc + 1 ≤ C) (hs : ns + 6 ≤ S) (hr : zRel h) (next : ∀ (h2 : zH) (k5 k6 : Option zV), zRel h2 → zMD l D ad cI cL sz p e s m args below meth cd Q 42 C S mZ_law (nc + 1) (ns + 6) 978 [some (.inr (.inr 104)), some (.inr (.inr 0)), some (.inr (.inr 27)), some (.inr (.inr 47)), some (.inl (nI (5 * j))), k5, k6] [] h2) : zMD l D ad cI cL sz p e s m args below meth cd Q 42 C S mZ_law nc ns 494 [some (.inr (.inr 104)), some (.inr (.inr 0)), some (.inr (.inr 27)), some (.inr (.inr 47)), some (.inl (nI (5 * j))), none, none] [] h := by
  obtain ⟨hC, hX, hb, hA, had⟩ := hG
  obtain ⟨k, Kc, hsw, hk⟩ := st_round hr 
  refine p_aload_n hC (zdk oZ_law_5 15 rfl) rfl rfl ?_
  refine p_aload_n hC (zdk oZ_law_5 16 rfl) rfl rfl ?_
  refine p_callW (M' := mZ_round) (As := [_, _]) (st := []) hC (zdk oZ_law_5 17 rfl) lM_Z_100 wZ_round rfl (Nat.le_of_ble_eq_true rfl) rfl hsw hc hs ?_
  intro r h1 q
  obtain ⟨e1, Kr, hsr, hkr⟩ := hk r h1 q
  subst e1
  show zMD l D ad cI cL sz p e s m args below meth cd Q 42 C S mZ_law (nc + 1) (ns + 6) 499 _ [.inl k] h1
  refine p_istore hC (zdk oZ_law_5 18 rfl) (Nat.le_of_ble_eq_true rfl) rfl ?_
  refine p_aload_n hC (zdk oZ_law_5 19 rfl) rfl rfl ?_
  refine p_callV (M' := mM_round) (As := []) (st := []) hC (zdk oZ_law_5 20 rfl) lM_Z_103 vM_round rfl rfl rfl (Nat.le_of_ble_eq_true rfl) rfl hsr ?_
  intro r2 h2 q2
  obtain ⟨bb, e2, ht, hrel, h47⟩ := hkr r2 h2 q2
  subst e2
  show zMD l D ad cI cL sz p e s m args below meth cd Q 42 C S mZ_law (nc + 1) (ns + 6) 505 _ [.inl bb] h2
  refine p_istore hC (zdk oZ_law_5 21 rfl) (Nat.le_of_ble_eq_true rfl) rfl ?_
  refine p_aload_n hC (zdk oZ_law_5 22 rfl) rfl rfl ?_
  refine p_callV (M' := mM_thrown) (As := []) (st := []) hC (zdk oZ_law_5 23 rfl) lM_Z_72 vM_thrown rfl rfl rfl (Nat.le_of_ble_eq_true rfl) rfl (spM_thrown 41 h2) ?_
  intro r3 h3 q3
  obtain ⟨e3, e4⟩ := q3
  cases e3
  subst e4
  show zMD l D ad cI cL sz p e s m args below meth cd Q 42 C S mZ_law (nc + 1) (ns + 6) 511 _ [.inl (h3.1 27 0)] h3
  refine p_iload hC (zdk oZ_law_5 24 rfl) rfl ?_
  refine p_icmp_eq (tgt := 518) hC (zdk oZ_law_5 25 rfl) (by decide) (fun _ => ?_) (fun q9 => absurd ht q9)
  refine p_iload hC (zdk oZ_law_5 26 rfl) rfl ?_
  refine p_if_ne (tgt := 535) hC (zdk oZ_law_5 27 rfl) (by decide) (fun hk0 => ?_) (fun hk0 => ?_)
  · refine p_goto (tgt := 978) hC (zdk oZ_law_5 35 rfl) (by decide) ?_
    exact next _ _ _ hrel
  · refine p_aload_n hC (zdk oZ_law_5 28 rfl) rfl rfl ?_
    refine p_iconst (v := nI 0) hC (zdk oZ_law_5 29 rfl) (by decide) ?_
    refine p_lald hC (zdk oZ_law_5 30 rfl) rfl (show vp_in (nI 0) 1 from fun z => z.elim (by decide) (by decide)) ?_
    refine p_iload hC (zdk oZ_law_5 31 rfl) rfl ?_
    refine p_i2l hC (zdk oZ_law_5 32 rfl) ?_
    refine p_lcmp hC (zdk oZ_law_5 33 rfl) ?_
    refine p_if_eq (tgt := 535) hC (zdk oZ_law_5 34 rfl) (by decide) (fun _ => ?_) (fun q9 => absurd ((lg0 _ _).mpr (h47 hk0)) q9)
    refine p_goto (tgt := 978) hC (zdk oZ_law_5 35 rfl) (by decide) ?_
    exact next _ _ _ hrel
theorem ca_state (hG : zLc l D ad cI cL sz p s m args meth cd b N xs) (hN : N ≤ 2560) (hj : 5 * j + 5 ≤ N) (hc : nc + 1 ≤ C) (hs : ns + 6 ≤ S) (hr : zRel h) (next : ∀ (h2 : zH) (k5 k6 : Option zV), zRel h2 → zMD l D ad cI cL sz p e s m args below meth cd Q 42 C S mZ_law (nc + 1) (ns + 6) 978 [some (.inr (.inr 104)), some (.inr (.inr 0)), some (.inr (.inr 27)), some (.inr (.inr 47)), some (.inl (nI (5 * j))), k5, k6] [] h2) : zMD l D ad cI cL sz p e s m args below meth cd Q 42 C S mZ_law nc ns 538 [some (.inr (.inr 104)), some (.inr (.inr 0)), some (.inr (.inr 27)), some (.inr (.inr 47)), some (.inl (nI (5 * j))), none, none] [] h := by
  obtain ⟨hC, hX, hb, hA, had⟩ := hG
  obtain ⟨k, Kc, hsw, hk⟩ := st_state hr (xs (nI (5 * j) + nI 1).toNatClampNeg) (xs (nI (5 * j) + nI 2).toNatClampNeg)
  refine p_aload_n hC (zdk oZ_law_5 36 rfl) rfl rfl ?_
  refine p_aload_n hC (zdk oZ_law_5 37 rfl) rfl rfl ?_
  refine p_iload hC (zdk oZ_law_5 38 rfl) rfl ?_
  refine p_iconst (v := nI 1) hC (zdk oZ_law_5 39 rfl) (by decide) ?_
  refine p_iadd hC (zdk oZ_law_5 40 rfl) ?_
  refine p_sld hC hX hb hA had (zidx (r := 1) (by decide) hj hN) (zdk oZ_law_5 41 rfl) ?_
  refine p_aload_n hC (zdk oZ_law_5 42 rfl) rfl rfl ?_
  refine p_iload hC (zdk oZ_law_5 43 rfl) rfl ?_
  refine p_iconst (v := nI 2) hC (zdk oZ_law_5 44 rfl) (by decide) ?_
  refine p_iadd hC (zdk oZ_law_6 0 rfl) ?_
  refine p_sld hC hX hb hA had (zidx (r := 2) (by decide) hj hN) (zdk oZ_law_6 1 rfl) ?_
  refine p_aload_n hC (zdk oZ_law_6 2 rfl) rfl rfl ?_
  refine p_callW (M' := mZ_state) (As := [_, _, _, _]) (st := []) hC (zdk oZ_law_6 3 rfl) lM_Z_104 wZ_state rfl (Nat.le_of_ble_eq_true rfl) rfl hsw hc hs ?_
  intro r h1 q
  obtain ⟨e1, Kr, hsr, hkr⟩ := hk r h1 q
  subst e1
  show zMD l D ad cI cL sz p e s m args below meth cd Q 42 C S mZ_law (nc + 1) (ns + 6) 555 _ [.inl k] h1
  refine p_istore hC (zdk oZ_law_6 4 rfl) (Nat.le_of_ble_eq_true rfl) rfl ?_
  refine p_aload_n hC (zdk oZ_law_6 5 rfl) rfl rfl ?_
  refine p_aload_n hC (zdk oZ_law_6 6 rfl) rfl rfl ?_
  refine p_iload hC (zdk oZ_law_6 7 rfl) rfl ?_
  refine p_iconst (v := nI 1) hC (zdk oZ_law_6 8 rfl) (by decide) ?_
  refine p_iadd hC (zdk oZ_law_6 9 rfl) ?_
  refine p_sld hC hX hb hA had (zidx (r := 1) (by decide) hj hN) (zdk oZ_law_6 10 rfl) ?_
  refine p_aload_n hC (zdk oZ_law_6 11 rfl) rfl rfl ?_
  refine p_iload hC (zdk oZ_law_6 12 rfl) rfl ?_
  refine p_iconst (v := nI 2) hC (zdk oZ_law_6 13 rfl) (by decide) ?_
  refine p_iadd hC (zdk oZ_law_6 14 rfl) ?_
  refine p_sld hC hX hb hA had (zidx (r := 2) (by decide) hj hN) (zdk oZ_law_6 15 rfl) ?_
  refine p_callV (M' := mM_state) (As := [_, _]) (st := []) hC (zdk oZ_law_6 16 rfl) lM_Z_106 vM_state rfl rfl rfl (Nat.le_of_ble_eq_true rfl) rfl hsr ?_
  intro r2 h2 q2
  obtain ⟨bb, e2, ht, hrel, h47⟩ := hkr r2 h2 q2
  subst e2
  show zMD l D ad cI cL sz p e s m args below meth cd Q 42 C S mZ_law (nc + 1) (ns + 6) 573 _ [.inl bb] h2
  refine p_istore hC (zdk oZ_law_6 17 rfl) (Nat.le_of_ble_eq_true rfl) rfl ?_
  refine p_aload_n hC (zdk oZ_law_6 18 rfl) rfl rfl ?_
  refine p_callV (M' := mM_thrown) (As := []) (st := []) hC (zdk oZ_law_6 19 rfl) lM_Z_72 vM_thrown rfl rfl rfl (Nat.le_of_ble_eq_true rfl) rfl (spM_thrown 41 h2) ?_
  intro r3 h3 q3
  obtain ⟨e3, e4⟩ := q3
  cases e3
  subst e4
  show zMD l D ad cI cL sz p e s m args below meth cd Q 42 C S mZ_law (nc + 1) (ns + 6) 579 _ [.inl (h3.1 27 0)] h3
  refine p_iload hC (zdk oZ_law_6 20 rfl) rfl ?_
  refine p_icmp_eq (tgt := 586) hC (zdk oZ_law_6 21 rfl) (by decide) (fun _ => ?_) (fun q9 => absurd ht q9)
  refine p_iload hC (zdk oZ_law_6 22 rfl) rfl ?_
  refine p_if_ne (tgt := 603) hC (zdk oZ_law_6 23 rfl) (by decide) (fun hk0 => ?_) (fun hk0 => ?_)
  · refine p_goto (tgt := 978) hC (zdk oZ_law_6 31 rfl) (by decide) ?_
    exact next _ _ _ hrel
  · refine p_aload_n hC (zdk oZ_law_6 24 rfl) rfl rfl ?_
    refine p_iconst (v := nI 0) hC (zdk oZ_law_6 25 rfl) (by decide) ?_
    refine p_lald hC (zdk oZ_law_6 26 rfl) rfl (show vp_in (nI 0) 1 from fun z => z.elim (by decide) (by decide)) ?_
    refine p_iload hC (zdk oZ_law_6 27 rfl) rfl ?_
    refine p_i2l hC (zdk oZ_law_6 28 rfl) ?_
    refine p_lcmp hC (zdk oZ_law_6 29 rfl) ?_
    refine p_if_eq (tgt := 603) hC (zdk oZ_law_6 30 rfl) (by decide) (fun _ => ?_) (fun q9 => absurd ((lg0 _ _).mpr (h47 hk0)) q9)
    refine p_goto (tgt := 978) hC (zdk oZ_law_6 31 rfl) (by decide) ?_
    exact next _ _ _ hrel
theorem ca_decided (hG : zLc l D ad cI cL sz p s m args meth cd b N xs) (hN : N ≤ 2560) (hj : 5 * j + 5 ≤ N) (hc : nc + 1 ≤ C) (hs : ns + 6 ≤ S) (hr : zRel h) (next : ∀ (h2 : zH) (k5 k6 : Option zV), zRel h2 → zMD l D ad cI cL sz p e s m args below meth cd Q 42 C S mZ_law (nc + 1) (ns + 6) 978 [some (.inr (.inr 104)), some (.inr (.inr 0)), some (.inr (.inr 27)), some (.inr (.inr 47)), some (.inl (nI (5 * j))), k5, k6] [] h2) : zMD l D ad cI cL sz p e s m args below meth cd Q 42 C S mZ_law nc ns 606 [some (.inr (.inr 104)), some (.inr (.inr 0)), some (.inr (.inr 27)), some (.inr (.inr 47)), some (.inl (nI (5 * j))), none, none] [] h := by
  obtain ⟨hC, hX, hb, hA, had⟩ := hG
  obtain ⟨k, Kc, hsw, hk⟩ := st_decided hr (xs (nI (5 * j) + nI 1).toNatClampNeg)
  refine p_aload_n hC (zdk oZ_law_6 32 rfl) rfl rfl ?_
  refine p_aload_n hC (zdk oZ_law_6 33 rfl) rfl rfl ?_
  refine p_iload hC (zdk oZ_law_6 34 rfl) rfl ?_
  refine p_iconst (v := nI 1) hC (zdk oZ_law_6 35 rfl) (by decide) ?_
  refine p_iadd hC (zdk oZ_law_6 36 rfl) ?_
  refine p_sld hC hX hb hA had (zidx (r := 1) (by decide) hj hN) (zdk oZ_law_6 37 rfl) ?_
  refine p_aload_n hC (zdk oZ_law_6 38 rfl) rfl rfl ?_
  refine p_callW (M' := mZ_decided) (As := [_, _, _]) (st := []) hC (zdk oZ_law_6 39 rfl) lM_Z_107 wZ_decided rfl (Nat.le_of_ble_eq_true rfl) rfl hsw hc hs ?_
  intro r h1 q
  obtain ⟨e1, Kr, hsr, hkr⟩ := hk r h1 q
  subst e1
  show zMD l D ad cI cL sz p e s m args below meth cd Q 42 C S mZ_law (nc + 1) (ns + 6) 617 _ [.inl k] h1
  refine p_istore hC (zdk oZ_law_6 40 rfl) (Nat.le_of_ble_eq_true rfl) rfl ?_
  refine p_aload_n hC (zdk oZ_law_6 41 rfl) rfl rfl ?_
  refine p_aload_n hC (zdk oZ_law_6 42 rfl) rfl rfl ?_
  refine p_iload hC (zdk oZ_law_6 43 rfl) rfl ?_
  refine p_iconst (v := nI 1) hC (zdk oZ_law_6 44 rfl) (by decide) ?_
  refine p_iadd hC (zdk oZ_law_7 0 rfl) ?_
  refine p_sld hC hX hb hA had (zidx (r := 1) (by decide) hj hN) (zdk oZ_law_7 1 rfl) ?_
  refine p_callV (M' := mM_decided) (As := [_]) (st := []) hC (zdk oZ_law_7 2 rfl) lM_Z_109 vM_decided rfl rfl rfl (Nat.le_of_ble_eq_true rfl) rfl hsr ?_
  intro r2 h2 q2
  obtain ⟨bb, e2, ht, hrel, h47⟩ := hkr r2 h2 q2
  subst e2
  show zMD l D ad cI cL sz p e s m args below meth cd Q 42 C S mZ_law (nc + 1) (ns + 6) 629 _ [.inl bb] h2
  refine p_istore hC (zdk oZ_law_7 3 rfl) (Nat.le_of_ble_eq_true rfl) rfl ?_
  refine p_aload_n hC (zdk oZ_law_7 4 rfl) rfl rfl ?_
  refine p_callV (M' := mM_thrown) (As := []) (st := []) hC (zdk oZ_law_7 5 rfl) lM_Z_72 vM_thrown rfl rfl rfl (Nat.le_of_ble_eq_true rfl) rfl (spM_thrown 41 h2) ?_
  intro r3 h3 q3
  obtain ⟨e3, e4⟩ := q3
  cases e3
  subst e4
  show zMD l D ad cI cL sz p e s m args below meth cd Q 42 C S mZ_law (nc + 1) (ns + 6) 635 _ [.inl (h3.1 27 0)] h3
  refine p_iload hC (zdk oZ_law_7 6 rfl) rfl ?_
  refine p_icmp_eq (tgt := 642) hC (zdk oZ_law_7 7 rfl) (by decide) (fun _ => ?_) (fun q9 => absurd ht q9)
  refine p_iload hC (zdk oZ_law_7 8 rfl) rfl ?_
  refine p_if_ne (tgt := 659) hC (zdk oZ_law_7 9 rfl) (by decide) (fun hk0 => ?_) (fun hk0 => ?_)
  · refine p_goto (tgt := 978) hC (zdk oZ_law_7 17 rfl) (by decide) ?_
    exact next _ _ _ hrel
  · refine p_aload_n hC (zdk oZ_law_7 10 rfl) rfl rfl ?_
    refine p_iconst (v := nI 0) hC (zdk oZ_law_7 11 rfl) (by decide) ?_
    refine p_lald hC (zdk oZ_law_7 12 rfl) rfl (show vp_in (nI 0) 1 from fun z => z.elim (by decide) (by decide)) ?_
    refine p_iload hC (zdk oZ_law_7 13 rfl) rfl ?_
    refine p_i2l hC (zdk oZ_law_7 14 rfl) ?_
    refine p_lcmp hC (zdk oZ_law_7 15 rfl) ?_
    refine p_if_eq (tgt := 659) hC (zdk oZ_law_7 16 rfl) (by decide) (fun _ => ?_) (fun q9 => absurd ((lg0 _ _).mpr (h47 hk0)) q9)
    refine p_goto (tgt := 978) hC (zdk oZ_law_7 17 rfl) (by decide) ?_
    exact next _ _ _ hrel
theorem ca_message (hG : zLc l D ad cI cL sz p s m args meth cd b N xs) (hN : N ≤ 2560) (hj : 5 * j + 5 ≤ N) (hc : nc + 1 ≤ C) (hs : ns + 6 ≤ S) (hr : zRel h) (next : ∀ (h2 : zH) (k5 k6 : Option zV), zRel h2 → zMD l D ad cI cL sz p e s m args below meth cd Q 42 C S mZ_law (nc + 1) (ns + 6) 978 [some (.inr (.inr 104)), some (.inr (.inr 0)), some (.inr (.inr 27)), some (.inr (.inr 47)), some (.inl (nI (5 * j))), k5, k6] [] h2) : zMD l D ad cI cL sz p e s m args below meth cd Q 42 C S mZ_law nc ns 662 [some (.inr (.inr 104)), some (.inr (.inr 0)), some (.inr (.inr 27)), some (.inr (.inr 47)), some (.inl (nI (5 * j))), none, none] [] h := by
  obtain ⟨hC, hX, hb, hA, had⟩ := hG
  obtain ⟨k, Kc, hsw, hk⟩ := st_message hr (xs (nI (5 * j) + nI 1).toNatClampNeg)
  refine p_aload_n hC (zdk oZ_law_7 18 rfl) rfl rfl ?_
  refine p_aload_n hC (zdk oZ_law_7 19 rfl) rfl rfl ?_
  refine p_iload hC (zdk oZ_law_7 20 rfl) rfl ?_
  refine p_iconst (v := nI 1) hC (zdk oZ_law_7 21 rfl) (by decide) ?_
  refine p_iadd hC (zdk oZ_law_7 22 rfl) ?_
  refine p_sld hC hX hb hA had (zidx (r := 1) (by decide) hj hN) (zdk oZ_law_7 23 rfl) ?_
  refine p_aload_n hC (zdk oZ_law_7 24 rfl) rfl rfl ?_
  refine p_callW (M' := mZ_message) (As := [_, _, _]) (st := []) hC (zdk oZ_law_7 25 rfl) lM_Z_110 wZ_message rfl (Nat.le_of_ble_eq_true rfl) rfl hsw hc hs ?_
  intro r h1 q
  obtain ⟨e1, Kr, hsr, hkr⟩ := hk r h1 q
  subst e1
  show zMD l D ad cI cL sz p e s m args below meth cd Q 42 C S mZ_law (nc + 1) (ns + 6) 673 _ [.inl k] h1
  refine p_istore hC (zdk oZ_law_7 26 rfl) (Nat.le_of_ble_eq_true rfl) rfl ?_
  refine p_aload_n hC (zdk oZ_law_7 27 rfl) rfl rfl ?_
  refine p_aload_n hC (zdk oZ_law_7 28 rfl) rfl rfl ?_
  refine p_iload hC (zdk oZ_law_7 29 rfl) rfl ?_
  refine p_iconst (v := nI 1) hC (zdk oZ_law_7 30 rfl) (by decide) ?_
  refine p_iadd hC (zdk oZ_law_7 31 rfl) ?_
  refine p_sld hC hX hb hA had (zidx (r := 1) (by decide) hj hN) (zdk oZ_law_7 32 rfl) ?_
  refine p_callV (M' := mM_message) (As := [_]) (st := []) hC (zdk oZ_law_7 33 rfl) lM_Z_112 vM_message rfl rfl rfl (Nat.le_of_ble_eq_true rfl) rfl hsr ?_
  intro r2 h2 q2
  obtain ⟨bb, e2, ht, hrel, h47⟩ := hkr r2 h2 q2
  subst e2
  show zMD l D ad cI cL sz p e s m args below meth cd Q 42 C S mZ_law (nc + 1) (ns + 6) 685 _ [.inl bb] h2
  refine p_istore hC (zdk oZ_law_7 34 rfl) (Nat.le_of_ble_eq_true rfl) rfl ?_
  refine p_aload_n hC (zdk oZ_law_7 35 rfl) rfl rfl ?_
  refine p_callV (M' := mM_thrown) (As := []) (st := []) hC (zdk oZ_law_7 36 rfl) lM_Z_72 vM_thrown rfl rfl rfl (Nat.le_of_ble_eq_true rfl) rfl (spM_thrown 41 h2) ?_
  intro r3 h3 q3
  obtain ⟨e3, e4⟩ := q3
  cases e3
  subst e4
  show zMD l D ad cI cL sz p e s m args below meth cd Q 42 C S mZ_law (nc + 1) (ns + 6) 691 _ [.inl (h3.1 27 0)] h3
  refine p_iload hC (zdk oZ_law_7 37 rfl) rfl ?_
  refine p_icmp_eq (tgt := 698) hC (zdk oZ_law_7 38 rfl) (by decide) (fun _ => ?_) (fun q9 => absurd ht q9)
  refine p_iload hC (zdk oZ_law_7 39 rfl) rfl ?_
  refine p_if_ne (tgt := 715) hC (zdk oZ_law_7 40 rfl) (by decide) (fun hk0 => ?_) (fun hk0 => ?_)
  · refine p_goto (tgt := 978) hC (zdk oZ_law_8 3 rfl) (by decide) ?_
    exact next _ _ _ hrel
  · refine p_aload_n hC (zdk oZ_law_7 41 rfl) rfl rfl ?_
    refine p_iconst (v := nI 0) hC (zdk oZ_law_7 42 rfl) (by decide) ?_
    refine p_lald hC (zdk oZ_law_7 43 rfl) rfl (show vp_in (nI 0) 1 from fun z => z.elim (by decide) (by decide)) ?_
    refine p_iload hC (zdk oZ_law_7 44 rfl) rfl ?_
    refine p_i2l hC (zdk oZ_law_8 0 rfl) ?_
    refine p_lcmp hC (zdk oZ_law_8 1 rfl) ?_
    refine p_if_eq (tgt := 715) hC (zdk oZ_law_8 2 rfl) (by decide) (fun _ => ?_) (fun q9 => absurd ((lg0 _ _).mpr (h47 hk0)) q9)
    refine p_goto (tgt := 978) hC (zdk oZ_law_8 3 rfl) (by decide) ?_
    exact next _ _ _ hrel
theorem ca_explore (hG : zLc l D ad cI cL sz p s m args meth cd b N xs) (hN : N ≤ 2560) (hj : 5 * j + 5 ≤ N) (hc : nc + 1 ≤ C) (hs : ns + 6 ≤ S) (hr : zRel h) (next : ∀ (h2 : zH) (k5 k6 : Option zV), zRel h2 → zMD l D ad cI cL sz p e s m args below meth cd Q 42 C S mZ_law (nc + 1) (ns + 6) 978 [some (.inr (.inr 104)), some (.inr (.inr 0)), some (.inr (.inr 27)), some (.inr (.inr 47)), some (.inl (nI (5 * j))), k5, k6] [] h2) : zMD l D ad cI cL sz p e s m args below meth cd Q 42 C S mZ_law nc ns 718 [some (.inr (.inr 104)), some (.inr (.inr 0)), some (.inr (.inr 27)), some (.inr (.inr 47)), some (.inl (nI (5 * j))), none, none] [] h := by
  obtain ⟨hC, hX, hb, hA, had⟩ := hG
  obtain ⟨k, Kc, hsw, hk⟩ := st_explore hr (xs (nI (5 * j) + nI 1).toNatClampNeg) (xs (nI (5 * j) + nI 2).toNatClampNeg) (xs (nI (5 * j) + nI 3).toNatClampNeg) (xs (nI (5 * j) + nI 4).toNatClampNeg)
  refine p_aload_n hC (zdk oZ_law_8 4 rfl) rfl rfl ?_
  refine p_aload_n hC (zdk oZ_law_8 5 rfl) rfl rfl ?_
  refine p_iload hC (zdk oZ_law_8 6 rfl) rfl ?_
  refine p_iconst (v := nI 1) hC (zdk oZ_law_8 7 rfl) (by decide) ?_
  refine p_iadd hC (zdk oZ_law_8 8 rfl) ?_
  refine p_sld hC hX hb hA had (zidx (r := 1) (by decide) hj hN) (zdk oZ_law_8 9 rfl) ?_
  refine p_aload_n hC (zdk oZ_law_8 10 rfl) rfl rfl ?_
  refine p_iload hC (zdk oZ_law_8 11 rfl) rfl ?_
  refine p_iconst (v := nI 2) hC (zdk oZ_law_8 12 rfl) (by decide) ?_
  refine p_iadd hC (zdk oZ_law_8 13 rfl) ?_
  refine p_sld hC hX hb hA had (zidx (r := 2) (by decide) hj hN) (zdk oZ_law_8 14 rfl) ?_
  refine p_aload_n hC (zdk oZ_law_8 15 rfl) rfl rfl ?_
  refine p_iload hC (zdk oZ_law_8 16 rfl) rfl ?_
  refine p_iconst (v := nI 3) hC (zdk oZ_law_8 17 rfl) (by decide) ?_
  refine p_iadd hC (zdk oZ_law_8 18 rfl) ?_
  refine p_sld hC hX hb hA had (zidx (r := 3) (by decide) hj hN) (zdk oZ_law_8 19 rfl) ?_
  refine p_aload_n hC (zdk oZ_law_8 20 rfl) rfl rfl ?_
  refine p_iload hC (zdk oZ_law_8 21 rfl) rfl ?_
  refine p_iconst (v := nI 4) hC (zdk oZ_law_8 22 rfl) (by decide) ?_
  refine p_iadd hC (zdk oZ_law_8 23 rfl) ?_
  refine p_sld hC hX hb hA had (zidx (r := 4) (by decide) hj hN) (zdk oZ_law_8 24 rfl) ?_
  refine p_aload_n hC (zdk oZ_law_8 25 rfl) rfl rfl ?_
  refine p_callW (M' := mZ_explore) (As := [_, _, _, _, _, _]) (st := []) hC (zdk oZ_law_8 26 rfl) lM_Z_113 wZ_explore rfl (Nat.le_of_ble_eq_true rfl) rfl hsw hc hs ?_
  intro r h1 q
  obtain ⟨e1, Kr, hsr, hkr⟩ := hk r h1 q
  subst e1
  show zMD l D ad cI cL sz p e s m args below meth cd Q 42 C S mZ_law (nc + 1) (ns + 6) 747 _ [.inl k] h1
  refine p_istore hC (zdk oZ_law_8 27 rfl) (Nat.le_of_ble_eq_true rfl) rfl ?_
  refine p_aload_n hC (zdk oZ_law_8 28 rfl) rfl rfl ?_
  refine p_aload_n hC (zdk oZ_law_8 29 rfl) rfl rfl ?_
  refine p_iload hC (zdk oZ_law_8 30 rfl) rfl ?_
  refine p_iconst (v := nI 1) hC (zdk oZ_law_8 31 rfl) (by decide) ?_
  refine p_iadd hC (zdk oZ_law_8 32 rfl) ?_
  refine p_sld hC hX hb hA had (zidx (r := 1) (by decide) hj hN) (zdk oZ_law_8 33 rfl) ?_
  refine p_aload_n hC (zdk oZ_law_8 34 rfl) rfl rfl ?_
  refine p_iload hC (zdk oZ_law_8 35 rfl) rfl ?_
  refine p_iconst (v := nI 2) hC (zdk oZ_law_8 36 rfl) (by decide) ?_
  refine p_iadd hC (zdk oZ_law_8 37 rfl) ?_
  refine p_sld hC hX hb hA had (zidx (r := 2) (by decide) hj hN) (zdk oZ_law_8 38 rfl) ?_
  refine p_aload_n hC (zdk oZ_law_8 39 rfl) rfl rfl ?_
  refine p_iload hC (zdk oZ_law_8 40 rfl) rfl ?_
  refine p_iconst (v := nI 3) hC (zdk oZ_law_8 41 rfl) (by decide) ?_
  refine p_iadd hC (zdk oZ_law_8 42 rfl) ?_
  refine p_sld hC hX hb hA had (zidx (r := 3) (by decide) hj hN) (zdk oZ_law_8 43 rfl) ?_
  refine p_aload_n hC (zdk oZ_law_8 44 rfl) rfl rfl ?_
  refine p_iload hC (zdk oZ_law_9 0 rfl) rfl ?_
  refine p_iconst (v := nI 4) hC (zdk oZ_law_9 1 rfl) (by decide) ?_
  refine p_iadd hC (zdk oZ_law_9 2 rfl) ?_
  refine p_sld hC hX hb hA had (zidx (r := 4) (by decide) hj hN) (zdk oZ_law_9 3 rfl) ?_
  refine p_callV (M' := mM_explore) (As := [_, _, _, _]) (st := []) hC (zdk oZ_law_9 4 rfl) lM_Z_116 vM_explore rfl rfl rfl (Nat.le_of_ble_eq_true rfl) rfl hsr ?_
  intro r2 h2 q2
  obtain ⟨bb, e2, ht, hrel, h47⟩ := hkr r2 h2 q2
  subst e2
  show zMD l D ad cI cL sz p e s m args below meth cd Q 42 C S mZ_law (nc + 1) (ns + 6) 777 _ [.inl bb] h2
  refine p_istore hC (zdk oZ_law_9 5 rfl) (Nat.le_of_ble_eq_true rfl) rfl ?_
  refine p_aload_n hC (zdk oZ_law_9 6 rfl) rfl rfl ?_
  refine p_callV (M' := mM_thrown) (As := []) (st := []) hC (zdk oZ_law_9 7 rfl) lM_Z_72 vM_thrown rfl rfl rfl (Nat.le_of_ble_eq_true rfl) rfl (spM_thrown 41 h2) ?_
  intro r3 h3 q3
  obtain ⟨e3, e4⟩ := q3
  cases e3
  subst e4
  show zMD l D ad cI cL sz p e s m args below meth cd Q 42 C S mZ_law (nc + 1) (ns + 6) 783 _ [.inl (h3.1 27 0)] h3
  refine p_iload hC (zdk oZ_law_9 8 rfl) rfl ?_
  refine p_icmp_eq (tgt := 790) hC (zdk oZ_law_9 9 rfl) (by decide) (fun _ => ?_) (fun q9 => absurd ht q9)
  refine p_iload hC (zdk oZ_law_9 10 rfl) rfl ?_
  refine p_if_ne (tgt := 807) hC (zdk oZ_law_9 11 rfl) (by decide) (fun hk0 => ?_) (fun hk0 => ?_)
  · refine p_goto (tgt := 978) hC (zdk oZ_law_9 19 rfl) (by decide) ?_
    exact next _ _ _ hrel
  · refine p_aload_n hC (zdk oZ_law_9 12 rfl) rfl rfl ?_
    refine p_iconst (v := nI 0) hC (zdk oZ_law_9 13 rfl) (by decide) ?_
    refine p_lald hC (zdk oZ_law_9 14 rfl) rfl (show vp_in (nI 0) 1 from fun z => z.elim (by decide) (by decide)) ?_
    refine p_iload hC (zdk oZ_law_9 15 rfl) rfl ?_
    refine p_i2l hC (zdk oZ_law_9 16 rfl) ?_
    refine p_lcmp hC (zdk oZ_law_9 17 rfl) ?_
    refine p_if_eq (tgt := 807) hC (zdk oZ_law_9 18 rfl) (by decide) (fun _ => ?_) (fun q9 => absurd ((lg0 _ _).mpr (h47 hk0)) q9)
    refine p_goto (tgt := 978) hC (zdk oZ_law_9 19 rfl) (by decide) ?_
    exact next _ _ _ hrel
theorem ca_trace (hG : zLc l D ad cI cL sz p s m args meth cd b N xs) (hN : N ≤ 2560) (hj : 5 * j + 5 ≤ N) (hc : nc + 1 ≤ C) (hs : ns + 6 ≤ S) (hr : zRel h) (next : ∀ (h2 : zH) (k5 k6 : Option zV), zRel h2 → zMD l D ad cI cL sz p e s m args below meth cd Q 42 C S mZ_law (nc + 1) (ns + 6) 978 [some (.inr (.inr 104)), some (.inr (.inr 0)), some (.inr (.inr 27)), some (.inr (.inr 47)), some (.inl (nI (5 * j))), k5, k6] [] h2) : zMD l D ad cI cL sz p e s m args below meth cd Q 42 C S mZ_law nc ns 810 [some (.inr (.inr 104)), some (.inr (.inr 0)), some (.inr (.inr 27)), some (.inr (.inr 47)), some (.inl (nI (5 * j))), none, none] [] h := by
  obtain ⟨hC, hX, hb, hA, had⟩ := hG
  obtain ⟨k, Kc, hsw, hk⟩ := st_trace hr (xs (nI (5 * j) + nI 1).toNatClampNeg)
  refine p_aload_n hC (zdk oZ_law_9 20 rfl) rfl rfl ?_
  refine p_aload_n hC (zdk oZ_law_9 21 rfl) rfl rfl ?_
  refine p_iload hC (zdk oZ_law_9 22 rfl) rfl ?_
  refine p_iconst (v := nI 1) hC (zdk oZ_law_9 23 rfl) (by decide) ?_
  refine p_iadd hC (zdk oZ_law_9 24 rfl) ?_
  refine p_sld hC hX hb hA had (zidx (r := 1) (by decide) hj hN) (zdk oZ_law_9 25 rfl) ?_
  refine p_aload_n hC (zdk oZ_law_9 26 rfl) rfl rfl ?_
  refine p_callW (M' := mZ_trace) (As := [_, _, _]) (st := []) hC (zdk oZ_law_9 27 rfl) lM_Z_117 wZ_trace rfl (Nat.le_of_ble_eq_true rfl) rfl hsw hc hs ?_
  intro r h1 q
  obtain ⟨e1, Kr, hsr, hkr⟩ := hk r h1 q
  subst e1
  show zMD l D ad cI cL sz p e s m args below meth cd Q 42 C S mZ_law (nc + 1) (ns + 6) 821 _ [.inl k] h1
  refine p_istore hC (zdk oZ_law_9 28 rfl) (Nat.le_of_ble_eq_true rfl) rfl ?_
  refine p_aload_n hC (zdk oZ_law_9 29 rfl) rfl rfl ?_
  refine p_aload_n hC (zdk oZ_law_9 30 rfl) rfl rfl ?_
  refine p_iload hC (zdk oZ_law_9 31 rfl) rfl ?_
  refine p_iconst (v := nI 1) hC (zdk oZ_law_9 32 rfl) (by decide) ?_
  refine p_iadd hC (zdk oZ_law_9 33 rfl) ?_
  refine p_sld hC hX hb hA had (zidx (r := 1) (by decide) hj hN) (zdk oZ_law_9 34 rfl) ?_
  refine p_callV (M' := mM_trace) (As := [_]) (st := []) hC (zdk oZ_law_9 35 rfl) lM_Z_119 vM_trace rfl rfl rfl (Nat.le_of_ble_eq_true rfl) rfl hsr ?_
  intro r2 h2 q2
  obtain ⟨bb, e2, ht, hrel, h47⟩ := hkr r2 h2 q2
  subst e2
  show zMD l D ad cI cL sz p e s m args below meth cd Q 42 C S mZ_law (nc + 1) (ns + 6) 833 _ [.inl bb] h2
  refine p_istore hC (zdk oZ_law_9 36 rfl) (Nat.le_of_ble_eq_true rfl) rfl ?_
  refine p_aload_n hC (zdk oZ_law_9 37 rfl) rfl rfl ?_
  refine p_callV (M' := mM_thrown) (As := []) (st := []) hC (zdk oZ_law_9 38 rfl) lM_Z_72 vM_thrown rfl rfl rfl (Nat.le_of_ble_eq_true rfl) rfl (spM_thrown 41 h2) ?_
  intro r3 h3 q3
  obtain ⟨e3, e4⟩ := q3
  cases e3
  subst e4
  show zMD l D ad cI cL sz p e s m args below meth cd Q 42 C S mZ_law (nc + 1) (ns + 6) 839 _ [.inl (h3.1 27 0)] h3
  refine p_iload hC (zdk oZ_law_9 39 rfl) rfl ?_
  refine p_icmp_eq (tgt := 846) hC (zdk oZ_law_9 40 rfl) (by decide) (fun _ => ?_) (fun q9 => absurd ht q9)
  refine p_iload hC (zdk oZ_law_9 41 rfl) rfl ?_
  refine p_if_ne (tgt := 863) hC (zdk oZ_law_9 42 rfl) (by decide) (fun hk0 => ?_) (fun hk0 => ?_)
  · refine p_goto (tgt := 978) hC (zdk oZ_law_10 5 rfl) (by decide) ?_
    exact next _ _ _ hrel
  · refine p_aload_n hC (zdk oZ_law_9 43 rfl) rfl rfl ?_
    refine p_iconst (v := nI 0) hC (zdk oZ_law_9 44 rfl) (by decide) ?_
    refine p_lald hC (zdk oZ_law_10 0 rfl) rfl (show vp_in (nI 0) 1 from fun z => z.elim (by decide) (by decide)) ?_
    refine p_iload hC (zdk oZ_law_10 1 rfl) rfl ?_
    refine p_i2l hC (zdk oZ_law_10 2 rfl) ?_
    refine p_lcmp hC (zdk oZ_law_10 3 rfl) ?_
    refine p_if_eq (tgt := 863) hC (zdk oZ_law_10 4 rfl) (by decide) (fun _ => ?_) (fun q9 => absurd ((lg0 _ _).mpr (h47 hk0)) q9)
    refine p_goto (tgt := 978) hC (zdk oZ_law_10 5 rfl) (by decide) ?_
    exact next _ _ _ hrel
theorem ca_at (hG : zLc l D ad cI cL sz p s m args meth cd b N xs) (hN : N ≤ 2560) (hj : 5 * j + 5 ≤ N) (hc : nc + 1 ≤ C) (hs : ns + 6 ≤ S) (hr : zRel h) (next : ∀ (h2 : zH) (k5 k6 : Option zV), zRel h2 → zMD l D ad cI cL sz p e s m args below meth cd Q 42 C S mZ_law (nc + 1) (ns + 6) 978 [some (.inr (.inr 104)), some (.inr (.inr 0)), some (.inr (.inr 27)), some (.inr (.inr 47)), some (.inl (nI (5 * j))), k5, k6] [] h2) : zMD l D ad cI cL sz p e s m args below meth cd Q 42 C S mZ_law nc ns 866 [some (.inr (.inr 104)), some (.inr (.inr 0)), some (.inr (.inr 27)), some (.inr (.inr 47)), some (.inl (nI (5 * j))), none, none] [] h := by
  obtain ⟨hC, hX, hb, hA, had⟩ := hG
  obtain ⟨k, Kc, hsw, hk⟩ := st_at hr (xs (nI (5 * j) + nI 1).toNatClampNeg)
  refine p_aload_n hC (zdk oZ_law_10 6 rfl) rfl rfl ?_
  refine p_aload_n hC (zdk oZ_law_10 7 rfl) rfl rfl ?_
  refine p_iload hC (zdk oZ_law_10 8 rfl) rfl ?_
  refine p_iconst (v := nI 1) hC (zdk oZ_law_10 9 rfl) (by decide) ?_
  refine p_iadd hC (zdk oZ_law_10 10 rfl) ?_
  refine p_sld hC hX hb hA had (zidx (r := 1) (by decide) hj hN) (zdk oZ_law_10 11 rfl) ?_
  refine p_aload_n hC (zdk oZ_law_10 12 rfl) rfl rfl ?_
  refine p_callW (M' := mZ_at) (As := [_, _, _]) (st := []) hC (zdk oZ_law_10 13 rfl) lM_Z_120 wZ_at rfl (Nat.le_of_ble_eq_true rfl) rfl hsw hc hs ?_
  intro r h1 q
  obtain ⟨e1, Kr, hsr, hkr⟩ := hk r h1 q
  subst e1
  show zMD l D ad cI cL sz p e s m args below meth cd Q 42 C S mZ_law (nc + 1) (ns + 6) 877 _ [.inl k] h1
  refine p_istore hC (zdk oZ_law_10 14 rfl) (Nat.le_of_ble_eq_true rfl) rfl ?_
  refine p_aload_n hC (zdk oZ_law_10 15 rfl) rfl rfl ?_
  refine p_aload_n hC (zdk oZ_law_10 16 rfl) rfl rfl ?_
  refine p_iload hC (zdk oZ_law_10 17 rfl) rfl ?_
  refine p_iconst (v := nI 1) hC (zdk oZ_law_10 18 rfl) (by decide) ?_
  refine p_iadd hC (zdk oZ_law_10 19 rfl) ?_
  refine p_sld hC hX hb hA had (zidx (r := 1) (by decide) hj hN) (zdk oZ_law_10 20 rfl) ?_
  refine p_callV (M' := mM_at) (As := [_]) (st := []) hC (zdk oZ_law_10 21 rfl) lM_Z_122 vM_at rfl rfl rfl (Nat.le_of_ble_eq_true rfl) rfl hsr ?_
  intro r2 h2 q2
  obtain ⟨bb, e2, ht, hrel, h47⟩ := hkr r2 h2 q2
  subst e2
  show zMD l D ad cI cL sz p e s m args below meth cd Q 42 C S mZ_law (nc + 1) (ns + 6) 889 _ [.inl bb] h2
  refine p_istore hC (zdk oZ_law_10 22 rfl) (Nat.le_of_ble_eq_true rfl) rfl ?_
  refine p_aload_n hC (zdk oZ_law_10 23 rfl) rfl rfl ?_
  refine p_callV (M' := mM_thrown) (As := []) (st := []) hC (zdk oZ_law_10 24 rfl) lM_Z_72 vM_thrown rfl rfl rfl (Nat.le_of_ble_eq_true rfl) rfl (spM_thrown 41 h2) ?_
  intro r3 h3 q3
  obtain ⟨e3, e4⟩ := q3
  cases e3
  subst e4
  show zMD l D ad cI cL sz p e s m args below meth cd Q 42 C S mZ_law (nc + 1) (ns + 6) 895 _ [.inl (h3.1 27 0)] h3
  refine p_iload hC (zdk oZ_law_10 25 rfl) rfl ?_
  refine p_icmp_eq (tgt := 902) hC (zdk oZ_law_10 26 rfl) (by decide) (fun _ => ?_) (fun q9 => absurd ht q9)
  refine p_iload hC (zdk oZ_law_10 27 rfl) rfl ?_
  refine p_if_ne (tgt := 919) hC (zdk oZ_law_10 28 rfl) (by decide) (fun hk0 => ?_) (fun hk0 => ?_)
  · refine p_goto (tgt := 978) hC (zdk oZ_law_10 36 rfl) (by decide) ?_
    exact next _ _ _ hrel
  · refine p_aload_n hC (zdk oZ_law_10 29 rfl) rfl rfl ?_
    refine p_iconst (v := nI 0) hC (zdk oZ_law_10 30 rfl) (by decide) ?_
    refine p_lald hC (zdk oZ_law_10 31 rfl) rfl (show vp_in (nI 0) 1 from fun z => z.elim (by decide) (by decide)) ?_
    refine p_iload hC (zdk oZ_law_10 32 rfl) rfl ?_
    refine p_i2l hC (zdk oZ_law_10 33 rfl) ?_
    refine p_lcmp hC (zdk oZ_law_10 34 rfl) ?_
    refine p_if_eq (tgt := 919) hC (zdk oZ_law_10 35 rfl) (by decide) (fun _ => ?_) (fun q9 => absurd ((lg0 _ _).mpr (h47 hk0)) q9)
    refine p_goto (tgt := 978) hC (zdk oZ_law_10 36 rfl) (by decide) ?_
    exact next _ _ _ hrel
theorem ca_count (hG : zLc l D ad cI cL sz p s m args meth cd b N xs) (hN : N ≤ 2560) (hj : 5 * j + 5 ≤ N) (hc : nc + 1 ≤ C) (hs : ns + 6 ≤ S) (hr : zRel h) (next : ∀ (h2 : zH) (k5 k6 : Option zV), zRel h2 → zMD l D ad cI cL sz p e s m args below meth cd Q 42 C S mZ_law (nc + 1) (ns + 6) 978 [some (.inr (.inr 104)), some (.inr (.inr 0)), some (.inr (.inr 27)), some (.inr (.inr 47)), some (.inl (nI (5 * j))), k5, k6] [] h2) : zMD l D ad cI cL sz p e s m args below meth cd Q 42 C S mZ_law nc ns 922 [some (.inr (.inr 104)), some (.inr (.inr 0)), some (.inr (.inr 27)), some (.inr (.inr 47)), some (.inl (nI (5 * j))), none, none] [] h := by
  obtain ⟨hC, hX, hb, hA, had⟩ := hG
  obtain ⟨k, Kc, hsw, hk⟩ := st_count hr (xs (nI (5 * j) + nI 1).toNatClampNeg)
  refine p_aload_n hC (zdk oZ_law_10 37 rfl) rfl rfl ?_
  refine p_aload_n hC (zdk oZ_law_10 38 rfl) rfl rfl ?_
  refine p_iload hC (zdk oZ_law_10 39 rfl) rfl ?_
  refine p_iconst (v := nI 1) hC (zdk oZ_law_10 40 rfl) (by decide) ?_
  refine p_iadd hC (zdk oZ_law_10 41 rfl) ?_
  refine p_sld hC hX hb hA had (zidx (r := 1) (by decide) hj hN) (zdk oZ_law_10 42 rfl) ?_
  refine p_aload_n hC (zdk oZ_law_10 43 rfl) rfl rfl ?_
  refine p_callW (M' := mZ_count) (As := [_, _, _]) (st := []) hC (zdk oZ_law_10 44 rfl) lM_Z_123 wZ_count rfl (Nat.le_of_ble_eq_true rfl) rfl hsw hc hs ?_
  intro r h1 q
  obtain ⟨e1, Kr, hsr, hkr⟩ := hk r h1 q
  subst e1
  show zMD l D ad cI cL sz p e s m args below meth cd Q 42 C S mZ_law (nc + 1) (ns + 6) 933 _ [.inl k] h1
  refine p_istore hC (zdk oZ_law_11 0 rfl) (Nat.le_of_ble_eq_true rfl) rfl ?_
  refine p_aload_n hC (zdk oZ_law_11 1 rfl) rfl rfl ?_
  refine p_aload_n hC (zdk oZ_law_11 2 rfl) rfl rfl ?_
  refine p_iload hC (zdk oZ_law_11 3 rfl) rfl ?_
  refine p_iconst (v := nI 1) hC (zdk oZ_law_11 4 rfl) (by decide) ?_
  refine p_iadd hC (zdk oZ_law_11 5 rfl) ?_
  refine p_sld hC hX hb hA had (zidx (r := 1) (by decide) hj hN) (zdk oZ_law_11 6 rfl) ?_
  refine p_callV (M' := mM_count) (As := [_]) (st := []) hC (zdk oZ_law_11 7 rfl) lM_Z_125 vM_count rfl rfl rfl (Nat.le_of_ble_eq_true rfl) rfl hsr ?_
  intro r2 h2 q2
  obtain ⟨bb, e2, ht, hrel, h47⟩ := hkr r2 h2 q2
  subst e2
  show zMD l D ad cI cL sz p e s m args below meth cd Q 42 C S mZ_law (nc + 1) (ns + 6) 945 _ [.inl bb] h2
  refine p_istore hC (zdk oZ_law_11 8 rfl) (Nat.le_of_ble_eq_true rfl) rfl ?_
  refine p_aload_n hC (zdk oZ_law_11 9 rfl) rfl rfl ?_
  refine p_callV (M' := mM_thrown) (As := []) (st := []) hC (zdk oZ_law_11 10 rfl) lM_Z_72 vM_thrown rfl rfl rfl (Nat.le_of_ble_eq_true rfl) rfl (spM_thrown 41 h2) ?_
  intro r3 h3 q3
  obtain ⟨e3, e4⟩ := q3
  cases e3
  subst e4
  show zMD l D ad cI cL sz p e s m args below meth cd Q 42 C S mZ_law (nc + 1) (ns + 6) 951 _ [.inl (h3.1 27 0)] h3
  refine p_iload hC (zdk oZ_law_11 11 rfl) rfl ?_
  refine p_icmp_eq (tgt := 958) hC (zdk oZ_law_11 12 rfl) (by decide) (fun _ => ?_) (fun q9 => absurd ht q9)
  refine p_iload hC (zdk oZ_law_11 13 rfl) rfl ?_
  refine p_if_ne (tgt := 975) hC (zdk oZ_law_11 14 rfl) (by decide) (fun hk0 => ?_) (fun hk0 => ?_)
  · refine p_goto (tgt := 978) hC (zdk oZ_law_11 22 rfl) (by decide) ?_
    exact next _ _ _ hrel
  · refine p_aload_n hC (zdk oZ_law_11 15 rfl) rfl rfl ?_
    refine p_iconst (v := nI 0) hC (zdk oZ_law_11 16 rfl) (by decide) ?_
    refine p_lald hC (zdk oZ_law_11 17 rfl) rfl (show vp_in (nI 0) 1 from fun z => z.elim (by decide) (by decide)) ?_
    refine p_iload hC (zdk oZ_law_11 18 rfl) rfl ?_
    refine p_i2l hC (zdk oZ_law_11 19 rfl) ?_
    refine p_lcmp hC (zdk oZ_law_11 20 rfl) ?_
    refine p_if_eq (tgt := 975) hC (zdk oZ_law_11 21 rfl) (by decide) (fun _ => ?_) (fun q9 => absurd ((lg0 _ _).mpr (h47 hk0)) q9)
    refine p_goto (tgt := 978) hC (zdk oZ_law_11 22 rfl) (by decide) ?_
    exact next _ _ _ hrel
end ZLaw
