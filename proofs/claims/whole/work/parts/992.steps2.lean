/-! calls of the law, going on -/
theorem i7x {p : Int32} : ¬ p < 7 ↔ 6 < p := by
  have e7 : (7 : Int32).toInt = 7 := rfl
  have e6 : (6 : Int32).toInt = 6 := rfl
  rw [Int32.lt_iff_toInt_lt, Int32.lt_iff_toInt_lt, e7, e6]
  omega
theorem zNat2 {i : Int32} {n : Nat} (h : ¬ (i < 0 ∨ ¬ i < nI n)) (hn : n < 2 ^ 31) : ∃ k, k < n ∧ i = nI k :=
  zNat (fun z => h (Or.inl z)) (Int32.not_le.mpr (Classical.not_not.mp (fun z => h (Or.inr z)))) hn
theorem zNat15 {v : Int32} (h0 : ¬ v < 0) (h1 : ¬ 15 < v) : ∃ k, k ≤ 15 ∧ v = nI k := by
  obtain ⟨k, hk, e⟩ := zNat (i := v) (n := 16) h0 (fun z => h1 (by
    have e16 : (nI 16).toInt = 16 := rfl
    have e15 : (15 : Int32).toInt = 15 := rfl
    rw [Int32.le_iff_toInt_le, e16] at z
    rw [Int32.lt_iff_toInt_lt, e15]
    omega)) (by decide)
  exact ⟨k, by omega, e⟩
theorem zdec_f {p c : Int32} (h : p < 0 ∨ ¬ p < c) : decide (¬ p < 0 ∧ ¬ c ≤ p) = false := by
  refine decide_eq_false (fun z => ?_)
  rcases h with h | h
  · exact z.1 h
  · exact z.2 (Int32.not_lt.mp h)
theorem zdec_t {k n : Nat} {c : Int32} (e : c = nI n) (hk : k < n) (hn : n < 2 ^ 31) : decide (¬ nI k < 0 ∧ ¬ c ≤ nI k) = true := by
  refine decide_eq_true ⟨zm1p (by omega), ?_⟩
  rw [e]
  exact nI_ge hk hn
theorem st_input {h : zH} (hr : zRel h) (p v : Int32) : zStep mZ_input mM_input [.inr (.inr 0), .inl p, .inl v, .inr (.inr 47)] [.inr (.inr 27), .inl p, .inl v] h := by
  by_cases hp : p < 0 ∨ ¬ p < 7
  · have ea : decide (¬ p < 0 ∧ ¬ 6 < p) = false := by
      refine decide_eq_false (fun z => ?_)
      rcases hp with h | h
      · exact z.1 h
      · exact z.2 (i7x.mp h)
    exact zStep_x (v := 1) hr (by decide) (spZ_input_x1 40 h p v (spL_input_t1 40 h p v hp)) (spM_input_t 40 h p v false _ ea rfl rfl) (fun r2 h2 q => q)
  · have hp0 : ¬ p < 0 := fun z => hp (Or.inl z)
    have hp7 : p < 7 := Classical.not_not.mp (fun z => hp (Or.inr z))
    have ea : decide (¬ p < 0 ∧ ¬ 6 < p) = true := decide_eq_true ⟨hp0, fun z => hp (Or.inr (i7x.mpr z))⟩
    by_cases hv : v < 0 ∨ 15 < v
    · have eb : decide (¬ v < 0 ∧ ¬ 15 < v) = false := decide_eq_false (fun z => by
        rcases hv with h | h
        · exact z.1 h
        · exact z.2 h)
      exact zStep_x (v := 2) hr (by decide) (spZ_input_x2 40 h p v (spL_input_t2 39 h p v hp0 hp7 hv)) (spM_input_t 40 h p v true false ea eb rfl) (fun r2 h2 q => q)
    · have hv' : ¬ v < 0 ∧ ¬ 15 < v := ⟨fun z => hv (Or.inl z), fun z => hv (Or.inr z)⟩
      obtain ⟨k, hk, rfl⟩ := zNat2 (i := p) (n := 7) hp (by decide)
      obtain ⟨w, hw, ew⟩ := zNat15 hv'.1 hv'.2
      refine zStep_v (spZ_input 40 h (nI k) v _ (spL_input 39 h k v hk hv') zIe) (spM_input 40 _ k v hk hv') ?_ ?_ ?_ rfl
      · show (zput h 5 k v).1 32 k = h.1 5 k
        rw [zp1, if_neg (by omega)]
        exact (hr.inp k hk).1.symm
      · rw [zp1, if_neg (by omega), zp1, if_pos ⟨rfl, rfl⟩]
      · refine zRel_cg hr (fun a j k1 k2 k3 => ?_) (fun p hp => ?_)
        · rw [zp1, if_neg (fun z => k2 z.1), zp1, if_neg k3]
          show (zput h 5 k v).1 a j = h.1 a j
          rw [zp1, if_neg (fun z => k1 z.1)]
        · obtain ⟨i1, i2⟩ := hr.inp p hp
          have e5 : (zput (zput (zputL (zput h 5 k v) 47 0 (h.1 5 k).toInt64) 27 0 0) 32 k v).1 5 p = if p = k then v else h.1 5 p := by
            rw [zp1, if_neg (by omega), zp1, if_neg (by omega)]
            show (zput h 5 k v).1 5 p = _
            rw [zp1]
            by_cases e : p = k
            · rw [if_pos ⟨rfl, e⟩, if_pos e]
            · rw [if_neg (fun z => e z.2), if_neg e]
          have e32 : (zput (zput (zputL (zput h 5 k v) 47 0 (h.1 5 k).toInt64) 27 0 0) 32 k v).1 32 p = if p = k then v else h.1 32 p := by
            rw [zp1]
            by_cases e : p = k
            · rw [if_pos ⟨rfl, e⟩, if_pos e]
            · rw [if_neg (fun z => e z.2), if_neg e, zp1, if_neg (by omega)]
              show (zput h 5 k v).1 32 p = _
              rw [zp1, if_neg (by omega)]
          rw [e5, e32]
          by_cases e : p = k
          · rw [if_pos e, if_pos e]
            exact ⟨rfl, w, hw, ew⟩
          · rw [if_neg e, if_neg e]
            exact ⟨i1, i2⟩
theorem st_decided {h : zH} (hr : zRel h) (v : Int32) : zStep mZ_decided mM_decided [.inr (.inr 0), .inl v, .inr (.inr 47)] [.inr (.inr 27), .inl v] h := by
  obtain ⟨n, np, r, len, ck, a1, a2, a3, a4, a5, a6, a7, a8, a9, b1, b2, b3, b4, b5, b6, b7, c1, c2, c3, c4, c5, c6⟩ := id hr
  by_cases hv : v < 0 ∨ ¬ v < nI np
  · exact zStep_x (v := 1) hr (by decide) (spZ_decided_x1 40 h v (spL_decided_t 38 h v (by rw [a9]; exact hv))) (spM_decided_t 40 h v (zdec_f (by rw [b1]; exact hv))) (fun r2 h2 q => q)
  · obtain ⟨k, hk, rfl⟩ := zNat2 hv (by omega)
    obtain ⟨ph, vars, d1, d2, d3, d4, d5, d6⟩ := b7 (b6 (by omega)).1
    have v2 := d4.2.2.2.2.1
    have e := ((d6 k hk).2.2.2 0 (by omega)).1
    exact zStep_v (spZ_decided 40 h (nI k) _ (spL_decided 38 h k np a9 hk b2) zIe) (spM_decided 40 _ k (by omega) (zdec_t b1 hk (by omega))) (by show h.1 34 (5 * k) - 1 = h.1 12 (5 * k) - 1; rw [Nat.add_zero] at e; rw [e]) (by rw [zp1, if_pos ⟨rfl, rfl⟩]) (zRel_t (zRel_L hr)) rfl
theorem st_message {h : zH} (hr : zRel h) (v : Int32) : zStep mZ_message mM_message [.inr (.inr 0), .inl v, .inr (.inr 47)] [.inr (.inr 27), .inl v] h := by
  obtain ⟨n, np, r, len, ck, a1, a2, a3, a4, a5, a6, a7, a8, a9, b1, b2, b3, b4, b5, b6, b7, c1, c2, c3, c4, c5, c6⟩ := id hr
  by_cases hv : v < 0 ∨ ¬ v < nI np
  · exact zStep_x (v := 1) hr (by decide) (spZ_message_x1 40 h v (spL_message_t 38 h v (by rw [a9]; exact hv))) (spM_message_t 40 h v (zdec_f (by rw [b1]; exact hv))) (fun r2 h2 q => q)
  · obtain ⟨k, hk, rfl⟩ := zNat2 hv (by omega)
    obtain ⟨ph, vars, d1, d2, d3, d4, d5, d6⟩ := b7 (b6 (by omega)).1
    have e := (d6 k hk).2.2.1
    have er : (h.1 6 2 = 0) ↔ r = 0 := by
      rw [b3]
      constructor
      · intro z
        exact nI_inj (by omega) (by decide) (show nI r = nI 0 from z)
      · intro z
        rw [z]
        rfl
    exact zStep_v (spZ_message 40 h (nI k) _ (spL_message 38 h k np a9 hk b2) zIe) (spM_message 40 _ k (by omega) (zdec_t b1 hk (by omega))) (by
      show h.1 36 k = if h.1 6 2 = 0 then -1 else h.1 11 k
      rw [e]
      by_cases z : r = 0
      · rw [if_pos z, if_pos (er.mpr z)]
      · rw [if_neg z, if_neg (fun y => z (er.mp y))]) (by rw [zp1, if_pos ⟨rfl, rfl⟩]) (zRel_t (zRel_L hr)) rfl
theorem st_state {h : zH} (hr : zRel h) (v w : Int32) : zStep mZ_state mM_state [.inr (.inr 0), .inl v, .inl w, .inr (.inr 47)] [.inr (.inr 27), .inl v, .inl w] h := by
  obtain ⟨n, np, r, len, ck, a1, a2, a3, a4, a5, a6, a7, a8, a9, b1, b2, b3, b4, b5, b6, b7, c1, c2, c3, c4, c5, c6⟩ := id hr
  by_cases hv : v < 0 ∨ ¬ v < nI np
  · exact zStep_x (v := 1) hr (by decide) (spZ_state_x1 40 h v w (spL_state_t1 38 h v w (by rw [a9]; exact hv))) (spM_state_t 40 h v w (Or.inl (zdec_f (by rw [b1]; exact hv)))) (fun r2 h2 q => q)
  · obtain ⟨k, hk, rfl⟩ := zNat2 hv (by omega)
    obtain ⟨ph, vars, d1, d2, d3, d4, d5, d6⟩ := b7 (b6 (by omega)).1
    have k6 := d4.2.1
    have k8 := d5.2.1
    have v5 := d4.2.2.2.2.2.1
    by_cases hw : w < 0 ∨ ¬ w < nI vars
    · refine zStep_x (v := 1) hr (by decide) (spZ_state_x1 40 h (nI k) w (spL_state_t2 38 h k np w a9 hk b2 (by rw [k6]; exact hw))) (spM_state_t 40 h (nI k) w (Or.inr ?_)) (fun r2 h2 q => q)
      rw [k8]
      rcases hw with z | z
      · exact Or.inl z
      · exact Or.inr (Int32.not_lt.mp z)
    · obtain ⟨x, hx, rfl⟩ := zNat2 hw (by omega)
      exact zStep_v (spZ_state 40 h (nI k) (nI x) _ (spL_state 38 h k np x vars a9 hk b2 hx v5 k6) zIe) (spM_state 40 _ k x vars (by omega) hx v5 k8 (zdec_t b1 hk (by omega))) ((d6 k hk).2.2.2 x hx).1.symm (by rw [zp1, if_pos ⟨rfl, rfl⟩]) (zRel_t (zRel_L hr)) rfl
theorem st_count {h : zH} (hr : zRel h) (v : Int32) : zStep mZ_count mM_count [.inr (.inr 0), .inl v, .inr (.inr 47)] [.inr (.inr 27), .inl v] h := by
  obtain ⟨n, np, r, len, ck, a1, a2, a3, a4, a5, a6, a7, a8, a9, b1, b2, b3, b4, b5, b6, b7, c1, c2, c3, c4, c5, c6⟩ := id hr
  have e0 : (0 : Int32).toInt = 0 := rfl
  have e5 : (5 : Int32).toInt = 5 := rfl
  by_cases hv : v.toInt < 0 ∨ 5 < v.toInt
  · refine zStep_x (v := 1) hr (by decide) (spZ_count_x2 40 h v (spL_count_t 40 h v hv)) (spM_count_t 40 h v (fun z => ?_)) (fun r2 h2 q => q)
    rw [Int32.lt_iff_toInt_lt, Int32.lt_iff_toInt_lt, e0, e5] at z
    omega
  · obtain ⟨k, hk, rfl⟩ := zNat (i := v) (n := 6) (by rw [Int32.lt_iff_toInt_lt, e0]; omega) (by rw [Int32.le_iff_toInt_le, show (nI 6).toInt = 6 from rfl]; omega) (by decide)
    have hb1 : h.1 1 4 = 0 ∨ h.1 1 4 = 1 := by
      rw [a5]
      cases ck
      · exact Or.inl rfl
      · exact Or.inr rfl
    have hb2 : h.1 27 3 = 0 ∨ h.1 27 3 = 1 := by
      rw [a6, ← a5]
      exact hb1
    refine zStep_v (spZ_count 40 h (nI k) _ (spL_count 39 h k (by omega) hb1) zIe) (spM_count 40 _ k (by omega) hb2) ?_ (by rw [zp1, if_pos ⟨rfl, rfl⟩]) (zRel_t (zRel_L hr)) rfl
    show zCnt h k = zCnC h k
    have hk' : k = 0 ∨ k = 1 ∨ k = 2 ∨ k = 3 ∨ k = 4 ∨ k = 5 := by omega
    rcases hk' with rfl | rfl | rfl | rfl | rfl | rfl
    · show h.1 27 1 = h.1 1 3
      rw [a2, a3]
    · show h.1 27 3 = h.1 1 4
      rw [a5, a6]
    · show h.1 27 10 = h.1 9 2
      rw [a9, b1]
    · show (if h.1 27 10 = 0 then 0 else h.1 27 11) = h.1 6 2
      rw [b1, b3]
      by_cases z : np = 0
      · rw [b5 z, z]
        rfl
      · rw [if_neg (show ¬ nI np = 0 from fun y => z (nI_inj (by omega) (by decide) (show nI np = nI 0 from y))), (b6 (by omega)).2]
    · exact c1.symm
    · exact c2.symm
theorem qP_one {W : Nat → Int32} {n vars e p q d p' q' d' : Nat} (a : qP W n vars e p q d) (b : qP W n vars e p' q' d') : d = d' := by
  obtain ⟨a1, a2⟩ := a
  obtain ⟨b1, b2⟩ := b
  rw [a1] at b1
  cases b1
  rw [a2] at b2
  cases b2
  rfl
theorem zNatm {y : Int32} {n : Nat} (h : ¬ (y < -1 ∨ ¬ y < nI n)) (hn : n < 2 ^ 30) : ∃ q, q ≤ n ∧ y = nI q - 1 := by
  by_cases h0 : y < 0
  · refine ⟨0, by omega, ?_⟩
    have h1 : ¬ y < -1 := fun z => h (Or.inl z)
    have e0 : (0 : Int32).toInt = 0 := rfl
    have e1 : (-1 : Int32).toInt = -1 := rfl
    rw [Int32.lt_iff_toInt_lt, e0] at h0
    rw [Int32.lt_iff_toInt_lt, e1] at h1
    rw [show (nI 0 - 1 : Int32) = -1 from rfl, ← Int32.toInt_inj, e1]
    omega
  · obtain ⟨k, hk, rfl⟩ := zNat2 (i := y) (n := n) (fun z => z.elim h0 (fun z => h (Or.inr z))) (by omega)
    exact ⟨k + 1, hk, (zm1s k).symm⟩
theorem st_deep {h : zH} (hr : zRel h) (v w : Int32) : zStep mZ_deep mM_deep [.inr (.inr 0), .inl v, .inl w, .inr (.inr 47)] [.inr (.inr 27), .inl v, .inl w] h := by
  obtain ⟨n, np, r, len, ck, a1, a2, a3, a4, a5, a6, a7, a8, a9, b1, b2, b3, b4, b5, b6, b7, c1, c2, c3, c4, c5, c6⟩ := id hr
  cases ck with
  | false => exact zStep_x (v := 2) hr (by decide) (spZ_deep_x0 40 h v w (spL_deep_t2 39 h v w a5)) (spM_deep_t 40 h v w false a6 (fun z => by cases z)) (fun r2 h2 q => q)
  | true =>
    obtain ⟨ph, vars, d1, d2, d3, d4, d5, d6⟩ := b7 rfl
    obtain ⟨k5, k6, p1, p4, v2, v5, hE⟩ := id d4
    obtain ⟨m7, m8, -, -, -, -, hM⟩ := id d5
    by_cases hb : v < 0 ∨ ¬ v < nI ph ∨ w < -1 ∨ ¬ w < nI vars
    · refine zStep_x (v := 1) hr (by decide) (spZ_deep_x1 40 h v w (spL_deep_t1 39 h v w a5 (by rw [k5, k6]; exact hb))) (spM_deep_t 40 h v w true a6 (fun _ => ?_)) (fun r2 h2 q => q)
      rw [m7, m8]
      rcases hb with z | z | z | z
      · exact Or.inl z
      · exact Or.inr (Or.inl (Int32.not_lt.mp z))
      · exact Or.inr (Or.inr (Or.inl z))
      · exact Or.inr (Or.inr (Or.inr (Int32.not_lt.mp z)))
    · obtain ⟨f, hf, rfl⟩ := zNat2 (i := v) (n := ph) (fun z => hb (z.elim Or.inl (fun z => Or.inr (Or.inl z)))) (by omega)
      obtain ⟨q, hq, rfl⟩ := zNatm (y := w) (n := vars) (fun z => hb (Or.inr (Or.inr z))) (by omega)
      have hlt : f * (vars + 1) + q < ph * (vars + 1) := by
        have := Nat.mul_le_mul_right (vars + 1) (show f + 1 ≤ ph from hf)
        rw [Nat.add_mul] at this
        omega
      obtain ⟨x1, x2, x3, y1, -, -, y4⟩ := hE _ hlt
      obtain ⟨z1, z2, z3, w1, -, -, w4⟩ := hM f q hf hq
      rw [← a4] at w1
      refine zStep_v (spZ_deep 40 h (nI f) (nI q - 1) _ (spL_deep 39 h f q ph vars a5 k5 k6 p4 v5 hf hq) zIe) (spM_deep 40 _ f q ph vars a6 m7 m8 p4 v5 hf hq) ?_ (by rw [zp1, if_pos ⟨rfl, rfl⟩]) (zRel_t (zRel_L hr)) rfl
      show h.1 31 (6 * f + q) = h.1 4 (f * (vars + 1) + q)
      rw [y4, w4, qP_one y1 w1]
