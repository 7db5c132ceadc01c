theorem zgt {N j : Nat} (hN : N ≤ 2560) (hj : j ≤ 600) : (nI N - nI 5 < nI (5 * j)) ↔ ¬ 5 * j + 5 ≤ N := by
  have e5 : (nI (5 * j)).toInt = ((5 * j : Nat) : Int) := nI_toInt (by omega)
  have e : (nI N - nI 5).toInt = (N : Int) - 5 := by
    by_cases h5 : 5 ≤ N
    · have e1 : nI N - nI 5 = nI (N - 5) := by
        have e2 : nI N = nI (N - 5) + nI 5 := by rw [nI_add, show N - 5 + 5 = N by omega]
        rw [e2]
        generalize nI (N - 5) = a
        generalize nI 5 = b
        grind
      rw [e1, nI_toInt (by omega)]
      omega
    · have key : ∀ n : Fin 5, (nI n.val - nI 5).toInt = (n.val : Int) - 5 := by decide +kernel
      exact key ⟨N, by omega⟩
  rw [Int32.lt_iff_toInt_lt, e, e5]
  omega
section ZLoop
variable {l : Launch} {D : va_G} {ad : Nat → Nat} {cI cL : ClassId} {sz : Nat} {p : Program} {e : Env} {s : State} {m : MethodId} {args : Array Value} {below : List Frame} {meth : Method} {cd : Code} {Q : State → Prop} {C S c0 s0 b N : Nat} {xs : Nat → Int32}
theorem zlaw_loop (hG : zLc l D ad cI cL sz p s m args meth cd b N xs) (hN : N ≤ 2560) (hcC : c0 + 512 ≤ C) (hsS : s0 + 6 * 512 ≤ S) (fin : ∀ (nc ns : Nat) (L : List (Option zV)) (h : zH), zMD l D ad cI cL sz p e s m args below meth cd Q 42 C S mZ_law nc ns 984 L [] h) : ∀ (k j : Nat) (h : zH) (k5 k6 : Option zV), N ≤ 5 * (j + k) → j ≤ 512 → zRel h → zMD l D ad cI cL sz p e s m args below meth cd Q 42 C S mZ_law (c0 + j) (s0 + 6 * j) 23 [some (.inr (.inr 104)), some (.inr (.inr 0)), some (.inr (.inr 27)), some (.inr (.inr 47)), some (.inl (nI (5 * j))), k5, k6] [] h := by
  intro k
  induction k with
  | zero =>
    intro j h k5 k6 hk hj hr
    obtain ⟨hC, hX, hb, hA, had⟩ := id hG
    refine p_iload hC (zdk oZ_law_0 13 rfl) rfl ?_
    refine p_aload_n hC (zdk oZ_law_0 14 rfl) rfl rfl ?_
    refine p_slen hC hX hb hA had (zdk oZ_law_0 15 rfl) ?_
    refine p_iconst (v := nI 5) hC (zdk oZ_law_0 16 rfl) (by decide) ?_
    refine p_isub hC (zdk oZ_law_0 17 rfl) ?_
    refine p_icmp_gt (tgt := 984) hC (zdk oZ_law_0 18 rfl) (by decide) (fun _ => fin _ _ _ _) (fun q9 => absurd ((zgt hN (by omega)).mpr (by omega)) q9)
  | succ k ih =>
    intro j h k5 k6 hk hj hr
    obtain ⟨hC, hX, hb, hA, had⟩ := id hG
    refine p_iload hC (zdk oZ_law_0 13 rfl) rfl ?_
    refine p_aload_n hC (zdk oZ_law_0 14 rfl) rfl rfl ?_
    refine p_slen hC hX hb hA had (zdk oZ_law_0 15 rfl) ?_
    refine p_iconst (v := nI 5) hC (zdk oZ_law_0 16 rfl) (by decide) ?_
    refine p_isub hC (zdk oZ_law_0 17 rfl) ?_
    refine p_icmp_gt (tgt := 984) hC (zdk oZ_law_0 18 rfl) (by decide) (fun _ => fin _ _ _ _) (fun q9 => ?_)
    have hjN : 5 * j + 5 ≤ N := Classical.not_not.mp (fun z => q9 ((zgt hN (by omega)).mpr z))
    refine p_weak (L' := [some (.inr (.inr 104)), some (.inr (.inr 0)), some (.inr (.inr 27)), some (.inr (.inr 47)), some (.inl (nI (5 * j))), none, none]) rfl (fun i v hv => ?_) ?_
    · rcases i with _ | _ | _ | _ | _ | _ | _ | i
      all_goals first | exact hv | (simp at hv)
    refine p_aload_n hC (zdk oZ_law_0 19 rfl) rfl rfl ?_
    refine p_iload hC (zdk oZ_law_0 20 rfl) rfl ?_
    refine p_sld hC hX hb hA had (vp_in_nI (n := 5 * j) (by omega) (by omega)) (zdk oZ_law_0 21 rfl) ?_
    refine p_bipush (v := 15) hC (zdk oZ_law_0 22 rfl) (by decide) ?_
    refine p_iand hC (zdk oZ_law_0 23 rfl) ?_
    have next : ∀ (h2 : zH) (k5 k6 : Option zV), zRel h2 → zMD l D ad cI cL sz p e s m args below meth cd Q 42 C S mZ_law (c0 + j + 1) (s0 + 6 * j + 6) 978 [some (.inr (.inr 104)), some (.inr (.inr 0)), some (.inr (.inr 27)), some (.inr (.inr 47)), some (.inl (nI (5 * j))), k5, k6] [] h2 := by
      intro h2 k5 k6 hrel
      refine p_iinc (v := nI (5 * (j + 1))) (L' := [some (.inr (.inr 104)), some (.inr (.inr 0)), some (.inr (.inr 27)), some (.inr (.inr 47)), some (.inl (nI (5 * (j + 1)))), k5, k6]) hC (zdk oZ_law_11 23 rfl) rfl (by rw [show Int32.ofInt 5 = nI 5 from rfl, nI_add, Nat.mul_add]) rfl ?_
      refine p_goto (tgt := 23) hC (zdk oZ_law_11 24 rfl) (by decide) ?_
      exact ih (j + 1) h2 k5 k6 (by omega) (by omega) hrel
    obtain ⟨c, hc16, ec⟩ := zand15 (xs (nI (5 * j)).toNatClampNeg)
    rw [ec]
    have hcs : c = 0 ∨ c = 1 ∨ c = 2 ∨ c = 3 ∨ c = 4 ∨ c = 5 ∨ c = 6 ∨ c = 7 ∨ c = 8 ∨ c = 9 ∨ c = 10 ∨ c = 11 ∨ c = 12 ∨ c = 13 ∨ c = 14 ∨ c = 15 := by omega
    rcases hcs with rfl | rfl | rfl | rfl | rfl | rfl | rfl | rfl | rfl | rfl | rfl | rfl | rfl | rfl | rfl | rfl
    · refine p_tabIn (off := 77) (tgt := 116) hC (zdk oZ_law_0 24 rfl) (by decide) (by decide) rfl (by decide) ?_
      exact ca_word hG hN hjN (by omega) (by omega) hr next
    · refine p_tabIn (off := 133) (tgt := 172) hC (zdk oZ_law_0 24 rfl) (by decide) (by decide) rfl (by decide) ?_
      exact ca_builtin hG hN hjN (by omega) (by omega) hr next
    · refine p_tabIn (off := 189) (tgt := 228) hC (zdk oZ_law_0 24 rfl) (by decide) (by decide) rfl (by decide) ?_
      exact ca_clear hG hN hjN (by omega) (by omega) hr next
    · refine p_tabIn (off := 202) (tgt := 241) hC (zdk oZ_law_0 24 rfl) (by decide) (by decide) rfl (by decide) ?_
      exact ca_check hG hN hjN (by omega) (by omega) hr next
    · refine p_tabIn (off := 215) (tgt := 254) hC (zdk oZ_law_0 24 rfl) (by decide) (by decide) rfl (by decide) ?_
      exact ca_deep hG hN hjN (by omega) (by omega) hr next
    · refine p_tabIn (off := 283) (tgt := 322) hC (zdk oZ_law_0 24 rfl) (by decide) (by decide) rfl (by decide) ?_
      exact ca_input hG hN hjN (by omega) (by omega) hr next
    · refine p_tabIn (off := 351) (tgt := 390) hC (zdk oZ_law_0 24 rfl) (by decide) (by decide) rfl (by decide) ?_
      exact ca_start hG hN hjN (by omega) (by omega) hr next
    · refine p_tabIn (off := 387) (tgt := 426) hC (zdk oZ_law_0 24 rfl) (by decide) (by decide) rfl (by decide) ?_
      exact ca_hear hG hN hjN (by omega) (by omega) hr next
    · refine p_tabIn (off := 455) (tgt := 494) hC (zdk oZ_law_0 24 rfl) (by decide) (by decide) rfl (by decide) ?_
      exact ca_round hG hN hjN (by omega) (by omega) hr next
    · refine p_tabIn (off := 499) (tgt := 538) hC (zdk oZ_law_0 24 rfl) (by decide) (by decide) rfl (by decide) ?_
      exact ca_state hG hN hjN (by omega) (by omega) hr next
    · refine p_tabIn (off := 567) (tgt := 606) hC (zdk oZ_law_0 24 rfl) (by decide) (by decide) rfl (by decide) ?_
      exact ca_decided hG hN hjN (by omega) (by omega) hr next
    · refine p_tabIn (off := 623) (tgt := 662) hC (zdk oZ_law_0 24 rfl) (by decide) (by decide) rfl (by decide) ?_
      exact ca_message hG hN hjN (by omega) (by omega) hr next
    · refine p_tabIn (off := 679) (tgt := 718) hC (zdk oZ_law_0 24 rfl) (by decide) (by decide) rfl (by decide) ?_
      exact ca_explore hG hN hjN (by omega) (by omega) hr next
    · refine p_tabIn (off := 771) (tgt := 810) hC (zdk oZ_law_0 24 rfl) (by decide) (by decide) rfl (by decide) ?_
      exact ca_trace hG hN hjN (by omega) (by omega) hr next
    · refine p_tabIn (off := 827) (tgt := 866) hC (zdk oZ_law_0 24 rfl) (by decide) (by decide) rfl (by decide) ?_
      exact ca_at hG hN hjN (by omega) (by omega) hr next
    · refine p_tabIn (off := 883) (tgt := 922) hC (zdk oZ_law_0 24 rfl) (by decide) (by decide) rfl (by decide) ?_
      exact ca_count hG hN hjN (by omega) (by omega) hr next
end ZLoop
