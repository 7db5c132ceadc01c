/-! a call of the law: the class by the law's method, then the reference; both agree -/
def zStep (Mh Mr : zM) (ha ra : List zV) (h : zH) : Prop := ∃ (k : Int32) (Kc : zR → zH → Prop), zSW 41 1 6 Mh ha h Kc ∧ ∀ r h1, Kc (.inl r) h1 → r = some (.inl k) ∧ ∃ Kr, zSP 41 0 0 Mr ra h1 Kr ∧ ∀ r2 h2, Kr (.inl r2) h2 → ∃ b, r2 = some (.inl b) ∧ h2.1 27 0 = k ∧ zRel h2 ∧ (k = 0 → h2.2 47 0 = b.toInt64)
theorem zRel.inp {h : zH} (hr : zRel h) : ∀ p, p < 7 → h.1 5 p = h.1 32 p ∧ ∃ k, k ≤ 15 ∧ h.1 5 p = nI k := by
  obtain ⟨n, np, r, len, ck, a1, a2, a3, a4, a5, a6, a7, -⟩ := hr
  exact a7
theorem zRel_t {h : zH} {t : Int32} (hr : zRel h) : zRel (zput h 27 0 t) := by
  refine zRel_cg hr (fun a j k1 k2 k3 => by rw [zp1, if_neg k3]) (fun p hp => ?_)
  rw [zp1, if_neg (by omega), zp1, if_neg (by omega)]
  exact hr.inp p hp
theorem zRel_L {h : zH} {x : Int64} (hr : zRel h) : zRel (zputL h 47 0 x) := hr
theorem zL47 {h : zH} {x : Int64} : (zputL h 47 0 x).2 47 0 = x := by
  show (if 47 = 47 then vp_updL (h.2 47) 0 x else h.2 47) 0 = x
  rw [if_pos rfl]
  simp [vp_updL]
theorem zStep_x {Mh Mr : zM} {ha ra : List zV} {h : zH} {v : Int32} {Kr : zR → zH → Prop} (hr : zRel h) (hv : v ≠ 0) (hh : zSW 41 1 6 Mh ha h (zI v h)) (hm : zSP 41 0 0 Mr ra h Kr) (hk : ∀ r2 h2, Kr (.inl r2) h2 → zRef h v (.inl r2) h2) : zStep Mh Mr ha ra h := by
  refine ⟨v, zI v h, hh, fun r h1 q => ?_⟩
  obtain ⟨e1, e2⟩ := q
  cases e1
  subst e2
  refine ⟨rfl, Kr, hm, fun r2 h2 q2 => ?_⟩
  obtain ⟨f1, f2⟩ := hk r2 h2 q2
  cases f1
  subst f2
  exact ⟨0, rfl, by rw [zp1, if_pos ⟨rfl, rfl⟩], zRel_t hr, fun z => absurd z hv⟩
theorem zStep_a {Mh Mr : zM} {ha ra : List zV} {h : zH} {K' : zR → zH → Prop} (hc : zSW 41 1 6 Mh ha h (fun r h' => r = .inl (some (.inl 0)) ∧ ∃ a h1, K' (.inl (some (.inl a))) h1 ∧ h' = zputL h1 47 0 a.toInt64))
    (hm : ∀ a h1, K' (.inl (some (.inl a))) h1 → ∃ Kr, zSP 41 0 0 Mr ra (zputL h1 47 0 a.toInt64) Kr ∧ ∀ r2 h2, Kr (.inl r2) h2 → r2 = some (.inl a) ∧ h2.1 27 0 = 0 ∧ zRel h2 ∧ h2.2 47 0 = a.toInt64) : zStep Mh Mr ha ra h := by
  refine ⟨0, _, hc, fun r h1 q => ?_⟩
  obtain ⟨e1, a, h9, q1, e2⟩ := q
  cases e1
  subst e2
  obtain ⟨Kr, s1, s2⟩ := hm a h9 q1
  refine ⟨rfl, Kr, s1, fun r2 h2 q2 => ?_⟩
  obtain ⟨t1, t2, t3, t4⟩ := s2 r2 h2 q2
  exact ⟨a, t1, t2, t3, fun _ => t4⟩
/-- both answer with a number -/
theorem zStep_v {Mh Mr : zM} {ha ra : List zV} {h hc hm : zH} {a b : Int32} (hcl : zSW 41 1 6 Mh ha h (fun r h' => r = .inl (some (.inl 0)) ∧ ∃ a9 h1, zI a hc (.inl (some (.inl a9))) h1 ∧ h' = zputL h1 47 0 a9.toInt64)) (hmo : zSP 41 0 0 Mr ra (zputL hc 47 0 a.toInt64) (zI b hm)) (eab : b = a) (h0 : hm.1 27 0 = 0) (hrel : zRel hm) (h47 : hm.2 = (zputL hc 47 0 a.toInt64).2) : zStep Mh Mr ha ra h := by
  refine zStep_a hcl (fun a9 h1 q => ?_)
  obtain ⟨e1, e2⟩ := q
  cases e1
  subst e2
  refine ⟨_, hmo, fun r2 h2 q2 => ?_⟩
  obtain ⟨f1, f2⟩ := q2
  cases f1
  subst f2
  exact ⟨by rw [eab], h0, hrel, by rw [h47, zL47]⟩
theorem zIe {v : Int32} {h0 : zH} : ∀ r h', zI v h0 (.inl r) h' → ∃ a, r = some (.inl a) := fun r h' q => ⟨v, Sum.inl.inj q.1⟩
theorem st_at {h : zH} (hr : zRel h) (v : Int32) : zStep mZ_at mM_at [.inr (.inr 0), .inl v, .inr (.inr 47)] [.inr (.inr 27), .inl v] h := by
  obtain ⟨n, np, r, len, ck, a1, a2, a3, a4, -⟩ := id hr
  by_cases hv : v < 0 ∨ ¬ v < h.1 1 3
  · refine zStep_x (v := 1) hr (by decide) (spZ_at_x1 40 h v (spL_at_t 40 h v hv)) (spM_at 40 h v n a3 a1) (fun r2 h2 q => q.1 ?_)
    rcases hv with hv | hv
    · exact Or.inl hv
    · rw [a2] at hv
      exact Or.inr (Int32.not_lt.mp hv)
  · have h1 : v < nI n := by rw [← a2]; exact Classical.not_not.mp (fun z => hv (Or.inr z))
    obtain ⟨k, hk, rfl⟩ := zNat (fun z => hv (Or.inl z)) (Int32.not_le.mpr h1) (by omega)
    exact zStep_v (spZ_at 40 h (nI k) _ (spL_at 40 h k n a2 a1 hk) zIe) ((spM_at 40 (zputL h 47 0 (h.1 2 k).toInt64) (nI k) n a3 a1).mono (fun r h' q => q.2 k hk rfl)) (congrFun a4 k).symm (by rw [zp1, if_pos ⟨rfl, rfl⟩]) (zRel_t (zRel_L hr)) rfl
theorem st_trace {h : zH} (hr : zRel h) (v : Int32) : zStep mZ_trace mM_trace [.inr (.inr 0), .inl v, .inr (.inr 47)] [.inr (.inr 27), .inl v] h := by
  obtain ⟨n, np, r, len, ck, a1, a2, a3, a4, a5, a6, a7, a8, a9, b1, b2, b3, b4, b5, b6, b7, c1, c2, c3, c4, c5, c6⟩ := id hr
  by_cases hv : v < 0 ∨ ¬ v < h.1 14 2
  · refine zStep_x (v := 1) hr (by decide) (spZ_trace_x1 40 h v (spL_trace_t 40 h v hv)) (spM_trace 40 h v len c4 c5) (fun r2 h2 q => q.1 ?_)
    rcases hv with hv | hv
    · exact Or.inl hv
    · rw [c3] at hv
      exact Or.inr (Int32.not_lt.mp hv)
  · have h1 : v < nI len := by rw [← c3]; exact Classical.not_not.mp (fun z => hv (Or.inr z))
    obtain ⟨k, hk, rfl⟩ := zNat (fun z => hv (Or.inl z)) (Int32.not_le.mpr h1) (by omega)
    exact zStep_v (spZ_trace 40 h (nI k) _ (spL_trace 40 h k len c3 c5 hk) zIe) ((spM_trace 40 (zputL h 47 0 (h.1 15 k).toInt64) (nI k) len c4 c5).mono (fun r h' q => q.2 k hk rfl)) (c6 k hk).symm (by rw [zp1, if_pos ⟨rfl, rfl⟩]) (zRel_t (zRel_L hr)) rfl
theorem st_word {h : zH} (hr : zRel h) (v : Int32) : zStep mZ_word mM_word [.inr (.inr 0), .inl v, .inr (.inr 47)] [.inr (.inr 27), .inl v] h := by
  obtain ⟨n, np, r, len, ck, a1, a2, a3, a4, -⟩ := id hr
  by_cases hv : n = 400
  · subst hv
    exact zStep_x (v := 1) hr (by decide) (spZ_word_x0 40 h v (spL_word_t 40 h v a2)) (spM_word_t 40 h v a3) (fun r2 h2 q => q)
  · have hn : n < 400 := by omega
    exact zStep_v (spZ_word 40 h v _ (spL_word 39 h n v a2 hn) zIe) (spM_word 40 _ v n (by rw [← a3]; simp [zputL, zp1]) hn) rfl (by simp [zp1]) (zRel_word hr a2 hn) rfl
