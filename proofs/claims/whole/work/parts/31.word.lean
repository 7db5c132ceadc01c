/-! the words: RoundLab$Word -/
theorem zinc (n : Nat) : nI n + Int32.ofInt 1 = nI (n + 1) := (nI_succ n).symm
theorem zdec (n : Nat) : nI (n + 1) + Int32.ofInt (-1) = nI n := pk_m1 n
theorem spW_parts (d : Nat) (w : Int32) (h : zH) : zSP d 0 0 mW_parts [.inl w] h (zI (nI (fParts w)) h) := by
  refine zmet (by decide +kernel) (Nat.le_of_ble_eq_true rfl) ?_
  refine r_iload_n (zdk oW_parts 0 rfl) rfl rfl ?_
  refine r_bipush (v := 20) (zdk oW_parts 1 rfl) (by decide) ?_
  refine r_icmp_lt (tgt := 14) (zdk oW_parts 2 rfl) (by decide) (fun hc0 => ?_) (fun hc0 => ?_)
  · refine r_iload_n (zdk oW_parts 8 rfl) rfl rfl ?_
    refine r_bipush (v := 30) (zdk oW_parts 9 rfl) (by decide) ?_
    refine r_icmp_ne (tgt := 22) (zdk oW_parts 10 rfl) (by decide) (fun hc1 => ?_) (fun hc1 => ?_)
    · refine r_iload_n (zdk oW_parts 13 rfl) rfl rfl ?_
      refine r_bipush (v := 29) (zdk oW_parts 14 rfl) (by decide) ?_
      refine r_icmp_eq (tgt := 40) (zdk oW_parts 15 rfl) (by decide) (fun hc2 => ?_) (fun hc2 => ?_)
      · refine r_iconst (v := 1) (zdk oW_parts 22 rfl) (by decide) ?_
        refine r_goto (tgt := 45) (zdk oW_parts 23 rfl) (by decide) ?_
        refine r_iret (zdk oW_parts 25 rfl) rfl ?_
        refine zIi ?_
        unfold fParts
        simp only [Int32.lt_iff_toInt_lt, Int32.le_iff_toInt_le, ← Int32.toInt_inj, Int32.reduceToInt] at *
        split <;> (try split) <;> (try split) <;> first | rfl | (exfalso; omega)
      · refine r_iload_n (zdk oW_parts 16 rfl) rfl rfl ?_
        refine r_bipush (v := 40) (zdk oW_parts 17 rfl) (by decide) ?_
        refine r_icmp_eq (tgt := 40) (zdk oW_parts 18 rfl) (by decide) (fun hc3 => ?_) (fun hc3 => ?_)
        · refine r_iconst (v := 1) (zdk oW_parts 22 rfl) (by decide) ?_
          refine r_goto (tgt := 45) (zdk oW_parts 23 rfl) (by decide) ?_
          refine r_iret (zdk oW_parts 25 rfl) rfl ?_
          refine zIi ?_
          unfold fParts
          simp only [Int32.lt_iff_toInt_lt, Int32.le_iff_toInt_le, ← Int32.toInt_inj, Int32.reduceToInt] at *
          split <;> (try split) <;> (try split) <;> first | rfl | (exfalso; omega)
        · refine r_iload_n (zdk oW_parts 19 rfl) rfl rfl ?_
          refine r_bipush (v := 41) (zdk oW_parts 20 rfl) (by decide) ?_
          refine r_icmp_ne (tgt := 44) (zdk oW_parts 21 rfl) (by decide) (fun hc4 => ?_) (fun hc4 => ?_)
          · refine r_iconst (v := 0) (zdk oW_parts 24 rfl) (by decide) ?_
            refine r_iret (zdk oW_parts 25 rfl) rfl ?_
            refine zIi ?_
            unfold fParts
            simp only [Int32.lt_iff_toInt_lt, Int32.le_iff_toInt_le, ← Int32.toInt_inj, Int32.reduceToInt] at *
            split <;> (try split) <;> (try split) <;> first | rfl | (exfalso; omega)
          · refine r_iconst (v := 1) (zdk oW_parts 22 rfl) (by decide) ?_
            refine r_goto (tgt := 45) (zdk oW_parts 23 rfl) (by decide) ?_
            refine r_iret (zdk oW_parts 25 rfl) rfl ?_
            refine zIi ?_
            unfold fParts
            simp only [Int32.lt_iff_toInt_lt, Int32.le_iff_toInt_le, ← Int32.toInt_inj, Int32.reduceToInt] at *
            split <;> (try split) <;> (try split) <;> first | rfl | (exfalso; omega)
    · refine r_iconst (v := 3) (zdk oW_parts 11 rfl) (by decide) ?_
      refine r_iret (zdk oW_parts 12 rfl) rfl ?_
      refine zIi ?_
      unfold fParts
      simp only [Int32.lt_iff_toInt_lt, Int32.le_iff_toInt_le, ← Int32.toInt_inj, Int32.reduceToInt] at *
      split <;> (try split) <;> (try split) <;> first | rfl | (exfalso; omega)
  · refine r_iload_n (zdk oW_parts 3 rfl) rfl rfl ?_
    refine r_bipush (v := 28) (zdk oW_parts 4 rfl) (by decide) ?_
    refine r_icmp_gt (tgt := 14) (zdk oW_parts 5 rfl) (by decide) (fun hc1 => ?_) (fun hc1 => ?_)
    · refine r_iload_n (zdk oW_parts 8 rfl) rfl rfl ?_
      refine r_bipush (v := 30) (zdk oW_parts 9 rfl) (by decide) ?_
      refine r_icmp_ne (tgt := 22) (zdk oW_parts 10 rfl) (by decide) (fun hc2 => ?_) (fun hc2 => ?_)
      · refine r_iload_n (zdk oW_parts 13 rfl) rfl rfl ?_
        refine r_bipush (v := 29) (zdk oW_parts 14 rfl) (by decide) ?_
        refine r_icmp_eq (tgt := 40) (zdk oW_parts 15 rfl) (by decide) (fun hc3 => ?_) (fun hc3 => ?_)
        · refine r_iconst (v := 1) (zdk oW_parts 22 rfl) (by decide) ?_
          refine r_goto (tgt := 45) (zdk oW_parts 23 rfl) (by decide) ?_
          refine r_iret (zdk oW_parts 25 rfl) rfl ?_
          refine zIi ?_
          unfold fParts
          simp only [Int32.lt_iff_toInt_lt, Int32.le_iff_toInt_le, ← Int32.toInt_inj, Int32.reduceToInt] at *
          split <;> (try split) <;> (try split) <;> first | rfl | (exfalso; omega)
        · refine r_iload_n (zdk oW_parts 16 rfl) rfl rfl ?_
          refine r_bipush (v := 40) (zdk oW_parts 17 rfl) (by decide) ?_
          refine r_icmp_eq (tgt := 40) (zdk oW_parts 18 rfl) (by decide) (fun hc4 => ?_) (fun hc4 => ?_)
          · refine r_iconst (v := 1) (zdk oW_parts 22 rfl) (by decide) ?_
            refine r_goto (tgt := 45) (zdk oW_parts 23 rfl) (by decide) ?_
            refine r_iret (zdk oW_parts 25 rfl) rfl ?_
            refine zIi ?_
            unfold fParts
            simp only [Int32.lt_iff_toInt_lt, Int32.le_iff_toInt_le, ← Int32.toInt_inj, Int32.reduceToInt] at *
            split <;> (try split) <;> (try split) <;> first | rfl | (exfalso; omega)
          · refine r_iload_n (zdk oW_parts 19 rfl) rfl rfl ?_
            refine r_bipush (v := 41) (zdk oW_parts 20 rfl) (by decide) ?_
            refine r_icmp_ne (tgt := 44) (zdk oW_parts 21 rfl) (by decide) (fun hc5 => ?_) (fun hc5 => ?_)
            · refine r_iconst (v := 0) (zdk oW_parts 24 rfl) (by decide) ?_
              refine r_iret (zdk oW_parts 25 rfl) rfl ?_
              refine zIi ?_
              unfold fParts
              simp only [Int32.lt_iff_toInt_lt, Int32.le_iff_toInt_le, ← Int32.toInt_inj, Int32.reduceToInt] at *
              split <;> (try split) <;> (try split) <;> first | rfl | (exfalso; omega)
            · refine r_iconst (v := 1) (zdk oW_parts 22 rfl) (by decide) ?_
              refine r_goto (tgt := 45) (zdk oW_parts 23 rfl) (by decide) ?_
              refine r_iret (zdk oW_parts 25 rfl) rfl ?_
              refine zIi ?_
              unfold fParts
              simp only [Int32.lt_iff_toInt_lt, Int32.le_iff_toInt_le, ← Int32.toInt_inj, Int32.reduceToInt] at *
              split <;> (try split) <;> (try split) <;> first | rfl | (exfalso; omega)
      · refine r_iconst (v := 3) (zdk oW_parts 11 rfl) (by decide) ?_
        refine r_iret (zdk oW_parts 12 rfl) rfl ?_
        refine zIi ?_
        unfold fParts
        simp only [Int32.lt_iff_toInt_lt, Int32.le_iff_toInt_le, ← Int32.toInt_inj, Int32.reduceToInt] at *
        split <;> (try split) <;> (try split) <;> first | rfl | (exfalso; omega)
    · refine r_iconst (v := 2) (zdk oW_parts 6 rfl) (by decide) ?_
      refine r_iret (zdk oW_parts 7 rfl) rfl ?_
      refine zIi ?_
      unfold fParts
      simp only [Int32.lt_iff_toInt_lt, Int32.le_iff_toInt_le, ← Int32.toInt_inj, Int32.reduceToInt] at *
      split <;> (try split) <;> (try split) <;> first | rfl | (exfalso; omega)
theorem spW_canStand (d : Nat) (w : Int32) (vars : Nat) (hv : vars ≤ 5) (hears : Bool) (h : zH) : zSP d 0 0 mW_canStand [.inl w, .inl (nI vars), .inl (fBo hears)] h (zI (fBo (fCan w vars hears)) h) := by
  have e1 : (100 + nI vars).toInt = 100 + (vars : Int) := by
    have : (100 : Int32) = nI 100 := rfl
    rw [this, nI_add, nI_toInt (by omega)]
    omega
  refine zmet (by decide +kernel) (Nat.le_of_ble_eq_true rfl) ?_
  refine r_iload_n (zdk oW_canStand 0 rfl) rfl rfl ?_
  refine r_if_lt (tgt := 10) (zdk oW_canStand 1 rfl) (by decide) (fun hc0 => ?_) (fun hc0 => ?_)
  · refine r_iload_n (zdk oW_canStand 5 rfl) rfl rfl ?_
    refine r_bipush (v := 100) (zdk oW_canStand 6 rfl) (by decide) ?_
    refine r_icmp_lt (tgt := 24) (zdk oW_canStand 7 rfl) (by decide) (fun hc1 => ?_) (fun hc1 => ?_)
    · refine r_iload_n (zdk oW_canStand 13 rfl) rfl rfl ?_
      refine r_bipush (v := 20) (zdk oW_canStand 14 rfl) (by decide) ?_
      refine r_icmp_lt (tgt := 36) (zdk oW_canStand 15 rfl) (by decide) (fun hc2 => ?_) (fun hc2 => ?_)
      · refine r_iload_n (zdk oW_canStand 19 rfl) rfl rfl ?_
        refine r_if_eq (tgt := 56) (zdk oW_canStand 20 rfl) (by decide) (fun hc3 => ?_) (fun hc3 => ?_)
        · refine r_iconst (v := 0) (zdk oW_canStand 29 rfl) (by decide) ?_
          refine r_zret (zdk oW_canStand 30 rfl) rfl (by decide) ?_
          refine zIi ?_
          have e2 : ∀ b : Bool, fBo b = 0 ↔ b = false := by intro b; cases b <;> decide
          simp only [Int32.lt_iff_toInt_lt, Int32.le_iff_toInt_le, e2, Int32.reduceToInt, e1] at *
          simp only [fCan, fBo, Bool.or_eq_true, Bool.and_eq_true, decide_eq_true_eq]
          split <;> first | rfl | (exfalso; grind)
        · refine r_iload_n (zdk oW_canStand 21 rfl) rfl rfl ?_
          refine r_bipush (v := 35) (zdk oW_canStand 22 rfl) (by decide) ?_
          refine r_icmp_lt (tgt := 56) (zdk oW_canStand 23 rfl) (by decide) (fun hc4 => ?_) (fun hc4 => ?_)
          · refine r_iconst (v := 0) (zdk oW_canStand 29 rfl) (by decide) ?_
            refine r_zret (zdk oW_canStand 30 rfl) rfl (by decide) ?_
            refine zIi ?_
            have e2 : ∀ b : Bool, fBo b = 0 ↔ b = false := by intro b; cases b <;> decide
            simp only [Int32.lt_iff_toInt_lt, Int32.le_iff_toInt_le, e2, Int32.reduceToInt, e1] at *
            simp only [fCan, fBo, Bool.or_eq_true, Bool.and_eq_true, decide_eq_true_eq]
            split <;> first | rfl | (exfalso; grind)
          · refine r_iload_n (zdk oW_canStand 24 rfl) rfl rfl ?_
            refine r_bipush (v := 41) (zdk oW_canStand 25 rfl) (by decide) ?_
            refine r_icmp_gt (tgt := 56) (zdk oW_canStand 26 rfl) (by decide) (fun hc5 => ?_) (fun hc5 => ?_)
            · refine r_iconst (v := 0) (zdk oW_canStand 29 rfl) (by decide) ?_
              refine r_zret (zdk oW_canStand 30 rfl) rfl (by decide) ?_
              refine zIi ?_
              have e2 : ∀ b : Bool, fBo b = 0 ↔ b = false := by intro b; cases b <;> decide
              simp only [Int32.lt_iff_toInt_lt, Int32.le_iff_toInt_le, e2, Int32.reduceToInt, e1] at *
              simp only [fCan, fBo, Bool.or_eq_true, Bool.and_eq_true, decide_eq_true_eq]
              split <;> first | rfl | (exfalso; grind)
            · refine r_iconst (v := 1) (zdk oW_canStand 27 rfl) (by decide) ?_
              refine r_goto (tgt := 57) (zdk oW_canStand 28 rfl) (by decide) ?_
              refine r_zret (zdk oW_canStand 30 rfl) rfl (by decide) ?_
              refine zIi ?_
              have e2 : ∀ b : Bool, fBo b = 0 ↔ b = false := by intro b; cases b <;> decide
              simp only [Int32.lt_iff_toInt_lt, Int32.le_iff_toInt_le, e2, Int32.reduceToInt, e1] at *
              simp only [fCan, fBo, Bool.or_eq_true, Bool.and_eq_true, decide_eq_true_eq]
              split <;> first | rfl | (exfalso; grind)
      · refine r_iload_n (zdk oW_canStand 16 rfl) rfl rfl ?_
        refine r_bipush (v := 34) (zdk oW_canStand 17 rfl) (by decide) ?_
        refine r_icmp_le (tgt := 52) (zdk oW_canStand 18 rfl) (by decide) (fun hc3 => ?_) (fun hc3 => ?_)
        · refine r_iconst (v := 1) (zdk oW_canStand 27 rfl) (by decide) ?_
          refine r_goto (tgt := 57) (zdk oW_canStand 28 rfl) (by decide) ?_
          refine r_zret (zdk oW_canStand 30 rfl) rfl (by decide) ?_
          refine zIi ?_
          have e2 : ∀ b : Bool, fBo b = 0 ↔ b = false := by intro b; cases b <;> decide
          simp only [Int32.lt_iff_toInt_lt, Int32.le_iff_toInt_le, e2, Int32.reduceToInt, e1] at *
          simp only [fCan, fBo, Bool.or_eq_true, Bool.and_eq_true, decide_eq_true_eq]
          split <;> first | rfl | (exfalso; grind)
        · refine r_iload_n (zdk oW_canStand 19 rfl) rfl rfl ?_
          refine r_if_eq (tgt := 56) (zdk oW_canStand 20 rfl) (by decide) (fun hc4 => ?_) (fun hc4 => ?_)
          · refine r_iconst (v := 0) (zdk oW_canStand 29 rfl) (by decide) ?_
            refine r_zret (zdk oW_canStand 30 rfl) rfl (by decide) ?_
            refine zIi ?_
            have e2 : ∀ b : Bool, fBo b = 0 ↔ b = false := by intro b; cases b <;> decide
            simp only [Int32.lt_iff_toInt_lt, Int32.le_iff_toInt_le, e2, Int32.reduceToInt, e1] at *
            simp only [fCan, fBo, Bool.or_eq_true, Bool.and_eq_true, decide_eq_true_eq]
            split <;> first | rfl | (exfalso; grind)
          · refine r_iload_n (zdk oW_canStand 21 rfl) rfl rfl ?_
            refine r_bipush (v := 35) (zdk oW_canStand 22 rfl) (by decide) ?_
            refine r_icmp_lt (tgt := 56) (zdk oW_canStand 23 rfl) (by decide) (fun hc5 => ?_) (fun hc5 => ?_)
            · refine r_iconst (v := 0) (zdk oW_canStand 29 rfl) (by decide) ?_
              refine r_zret (zdk oW_canStand 30 rfl) rfl (by decide) ?_
              refine zIi ?_
              have e2 : ∀ b : Bool, fBo b = 0 ↔ b = false := by intro b; cases b <;> decide
              simp only [Int32.lt_iff_toInt_lt, Int32.le_iff_toInt_le, e2, Int32.reduceToInt, e1] at *
              simp only [fCan, fBo, Bool.or_eq_true, Bool.and_eq_true, decide_eq_true_eq]
              split <;> first | rfl | (exfalso; grind)
            · refine r_iload_n (zdk oW_canStand 24 rfl) rfl rfl ?_
              refine r_bipush (v := 41) (zdk oW_canStand 25 rfl) (by decide) ?_
              refine r_icmp_gt (tgt := 56) (zdk oW_canStand 26 rfl) (by decide) (fun hc6 => ?_) (fun hc6 => ?_)
              · refine r_iconst (v := 0) (zdk oW_canStand 29 rfl) (by decide) ?_
                refine r_zret (zdk oW_canStand 30 rfl) rfl (by decide) ?_
                refine zIi ?_
                have e2 : ∀ b : Bool, fBo b = 0 ↔ b = false := by intro b; cases b <;> decide
                simp only [Int32.lt_iff_toInt_lt, Int32.le_iff_toInt_le, e2, Int32.reduceToInt, e1] at *
                simp only [fCan, fBo, Bool.or_eq_true, Bool.and_eq_true, decide_eq_true_eq]
                split <;> first | rfl | (exfalso; grind)
              · refine r_iconst (v := 1) (zdk oW_canStand 27 rfl) (by decide) ?_
                refine r_goto (tgt := 57) (zdk oW_canStand 28 rfl) (by decide) ?_
                refine r_zret (zdk oW_canStand 30 rfl) rfl (by decide) ?_
                refine zIi ?_
                have e2 : ∀ b : Bool, fBo b = 0 ↔ b = false := by intro b; cases b <;> decide
                simp only [Int32.lt_iff_toInt_lt, Int32.le_iff_toInt_le, e2, Int32.reduceToInt, e1] at *
                simp only [fCan, fBo, Bool.or_eq_true, Bool.and_eq_true, decide_eq_true_eq]
                split <;> first | rfl | (exfalso; grind)
    · refine r_iload_n (zdk oW_canStand 8 rfl) rfl rfl ?_
      refine r_bipush (v := 100) (zdk oW_canStand 9 rfl) (by decide) ?_
      refine r_iload_n (zdk oW_canStand 10 rfl) rfl rfl ?_
      refine r_iadd (zdk oW_canStand 11 rfl) ?_
      refine r_icmp_lt (tgt := 52) (zdk oW_canStand 12 rfl) (by decide) (fun hc2 => ?_) (fun hc2 => ?_)
      · refine r_iconst (v := 1) (zdk oW_canStand 27 rfl) (by decide) ?_
        refine r_goto (tgt := 57) (zdk oW_canStand 28 rfl) (by decide) ?_
        refine r_zret (zdk oW_canStand 30 rfl) rfl (by decide) ?_
        refine zIi ?_
        have e2 : ∀ b : Bool, fBo b = 0 ↔ b = false := by intro b; cases b <;> decide
        simp only [Int32.lt_iff_toInt_lt, Int32.le_iff_toInt_le, e2, Int32.reduceToInt, e1] at *
        simp only [fCan, fBo, Bool.or_eq_true, Bool.and_eq_true, decide_eq_true_eq]
        split <;> first | rfl | (exfalso; grind)
      · refine r_iload_n (zdk oW_canStand 13 rfl) rfl rfl ?_
        refine r_bipush (v := 20) (zdk oW_canStand 14 rfl) (by decide) ?_
        refine r_icmp_lt (tgt := 36) (zdk oW_canStand 15 rfl) (by decide) (fun hc3 => ?_) (fun hc3 => ?_)
        · refine r_iload_n (zdk oW_canStand 19 rfl) rfl rfl ?_
          refine r_if_eq (tgt := 56) (zdk oW_canStand 20 rfl) (by decide) (fun hc4 => ?_) (fun hc4 => ?_)
          · refine r_iconst (v := 0) (zdk oW_canStand 29 rfl) (by decide) ?_
            refine r_zret (zdk oW_canStand 30 rfl) rfl (by decide) ?_
            refine zIi ?_
            have e2 : ∀ b : Bool, fBo b = 0 ↔ b = false := by intro b; cases b <;> decide
            simp only [Int32.lt_iff_toInt_lt, Int32.le_iff_toInt_le, e2, Int32.reduceToInt, e1] at *
            simp only [fCan, fBo, Bool.or_eq_true, Bool.and_eq_true, decide_eq_true_eq]
            split <;> first | rfl | (exfalso; grind)
          · refine r_iload_n (zdk oW_canStand 21 rfl) rfl rfl ?_
            refine r_bipush (v := 35) (zdk oW_canStand 22 rfl) (by decide) ?_
            refine r_icmp_lt (tgt := 56) (zdk oW_canStand 23 rfl) (by decide) (fun hc5 => ?_) (fun hc5 => ?_)
            · refine r_iconst (v := 0) (zdk oW_canStand 29 rfl) (by decide) ?_
              refine r_zret (zdk oW_canStand 30 rfl) rfl (by decide) ?_
              refine zIi ?_
              have e2 : ∀ b : Bool, fBo b = 0 ↔ b = false := by intro b; cases b <;> decide
              simp only [Int32.lt_iff_toInt_lt, Int32.le_iff_toInt_le, e2, Int32.reduceToInt, e1] at *
              simp only [fCan, fBo, Bool.or_eq_true, Bool.and_eq_true, decide_eq_true_eq]
              split <;> first | rfl | (exfalso; grind)
            · refine r_iload_n (zdk oW_canStand 24 rfl) rfl rfl ?_
              refine r_bipush (v := 41) (zdk oW_canStand 25 rfl) (by decide) ?_
              refine r_icmp_gt (tgt := 56) (zdk oW_canStand 26 rfl) (by decide) (fun hc6 => ?_) (fun hc6 => ?_)
              · refine r_iconst (v := 0) (zdk oW_canStand 29 rfl) (by decide) ?_
                refine r_zret (zdk oW_canStand 30 rfl) rfl (by decide) ?_
                refine zIi ?_
                have e2 : ∀ b : Bool, fBo b = 0 ↔ b = false := by intro b; cases b <;> decide
                simp only [Int32.lt_iff_toInt_lt, Int32.le_iff_toInt_le, e2, Int32.reduceToInt, e1] at *
                simp only [fCan, fBo, Bool.or_eq_true, Bool.and_eq_true, decide_eq_true_eq]
                split <;> first | rfl | (exfalso; grind)
              · refine r_iconst (v := 1) (zdk oW_canStand 27 rfl) (by decide) ?_
                refine r_goto (tgt := 57) (zdk oW_canStand 28 rfl) (by decide) ?_
                refine r_zret (zdk oW_canStand 30 rfl) rfl (by decide) ?_
                refine zIi ?_
                have e2 : ∀ b : Bool, fBo b = 0 ↔ b = false := by intro b; cases b <;> decide
                simp only [Int32.lt_iff_toInt_lt, Int32.le_iff_toInt_le, e2, Int32.reduceToInt, e1] at *
                simp only [fCan, fBo, Bool.or_eq_true, Bool.and_eq_true, decide_eq_true_eq]
                split <;> first | rfl | (exfalso; grind)
        · refine r_iload_n (zdk oW_canStand 16 rfl) rfl rfl ?_
          refine r_bipush (v := 34) (zdk oW_canStand 17 rfl) (by decide) ?_
          refine r_icmp_le (tgt := 52) (zdk oW_canStand 18 rfl) (by decide) (fun hc4 => ?_) (fun hc4 => ?_)
          · refine r_iconst (v := 1) (zdk oW_canStand 27 rfl) (by decide) ?_
            refine r_goto (tgt := 57) (zdk oW_canStand 28 rfl) (by decide) ?_
            refine r_zret (zdk oW_canStand 30 rfl) rfl (by decide) ?_
            refine zIi ?_
            have e2 : ∀ b : Bool, fBo b = 0 ↔ b = false := by intro b; cases b <;> decide
            simp only [Int32.lt_iff_toInt_lt, Int32.le_iff_toInt_le, e2, Int32.reduceToInt, e1] at *
            simp only [fCan, fBo, Bool.or_eq_true, Bool.and_eq_true, decide_eq_true_eq]
            split <;> first | rfl | (exfalso; grind)
          · refine r_iload_n (zdk oW_canStand 19 rfl) rfl rfl ?_
            refine r_if_eq (tgt := 56) (zdk oW_canStand 20 rfl) (by decide) (fun hc5 => ?_) (fun hc5 => ?_)
            · refine r_iconst (v := 0) (zdk oW_canStand 29 rfl) (by decide) ?_
              refine r_zret (zdk oW_canStand 30 rfl) rfl (by decide) ?_
              refine zIi ?_
              have e2 : ∀ b : Bool, fBo b = 0 ↔ b = false := by intro b; cases b <;> decide
              simp only [Int32.lt_iff_toInt_lt, Int32.le_iff_toInt_le, e2, Int32.reduceToInt, e1] at *
              simp only [fCan, fBo, Bool.or_eq_true, Bool.and_eq_true, decide_eq_true_eq]
              split <;> first | rfl | (exfalso; grind)
            · refine r_iload_n (zdk oW_canStand 21 rfl) rfl rfl ?_
              refine r_bipush (v := 35) (zdk oW_canStand 22 rfl) (by decide) ?_
              refine r_icmp_lt (tgt := 56) (zdk oW_canStand 23 rfl) (by decide) (fun hc6 => ?_) (fun hc6 => ?_)
              · refine r_iconst (v := 0) (zdk oW_canStand 29 rfl) (by decide) ?_
                refine r_zret (zdk oW_canStand 30 rfl) rfl (by decide) ?_
                refine zIi ?_
                have e2 : ∀ b : Bool, fBo b = 0 ↔ b = false := by intro b; cases b <;> decide
                simp only [Int32.lt_iff_toInt_lt, Int32.le_iff_toInt_le, e2, Int32.reduceToInt, e1] at *
                simp only [fCan, fBo, Bool.or_eq_true, Bool.and_eq_true, decide_eq_true_eq]
                split <;> first | rfl | (exfalso; grind)
              · refine r_iload_n (zdk oW_canStand 24 rfl) rfl rfl ?_
                refine r_bipush (v := 41) (zdk oW_canStand 25 rfl) (by decide) ?_
                refine r_icmp_gt (tgt := 56) (zdk oW_canStand 26 rfl) (by decide) (fun hc7 => ?_) (fun hc7 => ?_)
                · refine r_iconst (v := 0) (zdk oW_canStand 29 rfl) (by decide) ?_
                  refine r_zret (zdk oW_canStand 30 rfl) rfl (by decide) ?_
                  refine zIi ?_
                  have e2 : ∀ b : Bool, fBo b = 0 ↔ b = false := by intro b; cases b <;> decide
                  simp only [Int32.lt_iff_toInt_lt, Int32.le_iff_toInt_le, e2, Int32.reduceToInt, e1] at *
                  simp only [fCan, fBo, Bool.or_eq_true, Bool.and_eq_true, decide_eq_true_eq]
                  split <;> first | rfl | (exfalso; grind)
                · refine r_iconst (v := 1) (zdk oW_canStand 27 rfl) (by decide) ?_
                  refine r_goto (tgt := 57) (zdk oW_canStand 28 rfl) (by decide) ?_
                  refine r_zret (zdk oW_canStand 30 rfl) rfl (by decide) ?_
                  refine zIi ?_
                  have e2 : ∀ b : Bool, fBo b = 0 ↔ b = false := by intro b; cases b <;> decide
                  simp only [Int32.lt_iff_toInt_lt, Int32.le_iff_toInt_le, e2, Int32.reduceToInt, e1] at *
                  simp only [fCan, fBo, Bool.or_eq_true, Bool.and_eq_true, decide_eq_true_eq]
                  split <;> first | rfl | (exfalso; grind)
  · refine r_iload_n (zdk oW_canStand 2 rfl) rfl rfl ?_
    refine r_bipush (v := 15) (zdk oW_canStand 3 rfl) (by decide) ?_
    refine r_icmp_le (tgt := 52) (zdk oW_canStand 4 rfl) (by decide) (fun hc1 => ?_) (fun hc1 => ?_)
    · refine r_iconst (v := 1) (zdk oW_canStand 27 rfl) (by decide) ?_
      refine r_goto (tgt := 57) (zdk oW_canStand 28 rfl) (by decide) ?_
      refine r_zret (zdk oW_canStand 30 rfl) rfl (by decide) ?_
      refine zIi ?_
      have e2 : ∀ b : Bool, fBo b = 0 ↔ b = false := by intro b; cases b <;> decide
      simp only [Int32.lt_iff_toInt_lt, Int32.le_iff_toInt_le, e2, Int32.reduceToInt, e1] at *
      simp only [fCan, fBo, Bool.or_eq_true, Bool.and_eq_true, decide_eq_true_eq]
      split <;> first | rfl | (exfalso; grind)
    · refine r_iload_n (zdk oW_canStand 5 rfl) rfl rfl ?_
      refine r_bipush (v := 100) (zdk oW_canStand 6 rfl) (by decide) ?_
      refine r_icmp_lt (tgt := 24) (zdk oW_canStand 7 rfl) (by decide) (fun hc2 => ?_) (fun hc2 => ?_)
      · refine r_iload_n (zdk oW_canStand 13 rfl) rfl rfl ?_
        refine r_bipush (v := 20) (zdk oW_canStand 14 rfl) (by decide) ?_
        refine r_icmp_lt (tgt := 36) (zdk oW_canStand 15 rfl) (by decide) (fun hc3 => ?_) (fun hc3 => ?_)
        · refine r_iload_n (zdk oW_canStand 19 rfl) rfl rfl ?_
          refine r_if_eq (tgt := 56) (zdk oW_canStand 20 rfl) (by decide) (fun hc4 => ?_) (fun hc4 => ?_)
          · refine r_iconst (v := 0) (zdk oW_canStand 29 rfl) (by decide) ?_
            refine r_zret (zdk oW_canStand 30 rfl) rfl (by decide) ?_
            refine zIi ?_
            have e2 : ∀ b : Bool, fBo b = 0 ↔ b = false := by intro b; cases b <;> decide
            simp only [Int32.lt_iff_toInt_lt, Int32.le_iff_toInt_le, e2, Int32.reduceToInt, e1] at *
            simp only [fCan, fBo, Bool.or_eq_true, Bool.and_eq_true, decide_eq_true_eq]
            split <;> first | rfl | (exfalso; grind)
          · refine r_iload_n (zdk oW_canStand 21 rfl) rfl rfl ?_
            refine r_bipush (v := 35) (zdk oW_canStand 22 rfl) (by decide) ?_
            refine r_icmp_lt (tgt := 56) (zdk oW_canStand 23 rfl) (by decide) (fun hc5 => ?_) (fun hc5 => ?_)
            · refine r_iconst (v := 0) (zdk oW_canStand 29 rfl) (by decide) ?_
              refine r_zret (zdk oW_canStand 30 rfl) rfl (by decide) ?_
              refine zIi ?_
              have e2 : ∀ b : Bool, fBo b = 0 ↔ b = false := by intro b; cases b <;> decide
              simp only [Int32.lt_iff_toInt_lt, Int32.le_iff_toInt_le, e2, Int32.reduceToInt, e1] at *
              simp only [fCan, fBo, Bool.or_eq_true, Bool.and_eq_true, decide_eq_true_eq]
              split <;> first | rfl | (exfalso; grind)
            · refine r_iload_n (zdk oW_canStand 24 rfl) rfl rfl ?_
              refine r_bipush (v := 41) (zdk oW_canStand 25 rfl) (by decide) ?_
              refine r_icmp_gt (tgt := 56) (zdk oW_canStand 26 rfl) (by decide) (fun hc6 => ?_) (fun hc6 => ?_)
              · refine r_iconst (v := 0) (zdk oW_canStand 29 rfl) (by decide) ?_
                refine r_zret (zdk oW_canStand 30 rfl) rfl (by decide) ?_
                refine zIi ?_
                have e2 : ∀ b : Bool, fBo b = 0 ↔ b = false := by intro b; cases b <;> decide
                simp only [Int32.lt_iff_toInt_lt, Int32.le_iff_toInt_le, e2, Int32.reduceToInt, e1] at *
                simp only [fCan, fBo, Bool.or_eq_true, Bool.and_eq_true, decide_eq_true_eq]
                split <;> first | rfl | (exfalso; grind)
              · refine r_iconst (v := 1) (zdk oW_canStand 27 rfl) (by decide) ?_
                refine r_goto (tgt := 57) (zdk oW_canStand 28 rfl) (by decide) ?_
                refine r_zret (zdk oW_canStand 30 rfl) rfl (by decide) ?_
                refine zIi ?_
                have e2 : ∀ b : Bool, fBo b = 0 ↔ b = false := by intro b; cases b <;> decide
                simp only [Int32.lt_iff_toInt_lt, Int32.le_iff_toInt_le, e2, Int32.reduceToInt, e1] at *
                simp only [fCan, fBo, Bool.or_eq_true, Bool.and_eq_true, decide_eq_true_eq]
                split <;> first | rfl | (exfalso; grind)
        · refine r_iload_n (zdk oW_canStand 16 rfl) rfl rfl ?_
          refine r_bipush (v := 34) (zdk oW_canStand 17 rfl) (by decide) ?_
          refine r_icmp_le (tgt := 52) (zdk oW_canStand 18 rfl) (by decide) (fun hc4 => ?_) (fun hc4 => ?_)
          · refine r_iconst (v := 1) (zdk oW_canStand 27 rfl) (by decide) ?_
            refine r_goto (tgt := 57) (zdk oW_canStand 28 rfl) (by decide) ?_
            refine r_zret (zdk oW_canStand 30 rfl) rfl (by decide) ?_
            refine zIi ?_
            have e2 : ∀ b : Bool, fBo b = 0 ↔ b = false := by intro b; cases b <;> decide
            simp only [Int32.lt_iff_toInt_lt, Int32.le_iff_toInt_le, e2, Int32.reduceToInt, e1] at *
            simp only [fCan, fBo, Bool.or_eq_true, Bool.and_eq_true, decide_eq_true_eq]
            split <;> first | rfl | (exfalso; grind)
          · refine r_iload_n (zdk oW_canStand 19 rfl) rfl rfl ?_
            refine r_if_eq (tgt := 56) (zdk oW_canStand 20 rfl) (by decide) (fun hc5 => ?_) (fun hc5 => ?_)
            · refine r_iconst (v := 0) (zdk oW_canStand 29 rfl) (by decide) ?_
              refine r_zret (zdk oW_canStand 30 rfl) rfl (by decide) ?_
              refine zIi ?_
              have e2 : ∀ b : Bool, fBo b = 0 ↔ b = false := by intro b; cases b <;> decide
              simp only [Int32.lt_iff_toInt_lt, Int32.le_iff_toInt_le, e2, Int32.reduceToInt, e1] at *
              simp only [fCan, fBo, Bool.or_eq_true, Bool.and_eq_true, decide_eq_true_eq]
              split <;> first | rfl | (exfalso; grind)
            · refine r_iload_n (zdk oW_canStand 21 rfl) rfl rfl ?_
              refine r_bipush (v := 35) (zdk oW_canStand 22 rfl) (by decide) ?_
              refine r_icmp_lt (tgt := 56) (zdk oW_canStand 23 rfl) (by decide) (fun hc6 => ?_) (fun hc6 => ?_)
              · refine r_iconst (v := 0) (zdk oW_canStand 29 rfl) (by decide) ?_
                refine r_zret (zdk oW_canStand 30 rfl) rfl (by decide) ?_
                refine zIi ?_
                have e2 : ∀ b : Bool, fBo b = 0 ↔ b = false := by intro b; cases b <;> decide
                simp only [Int32.lt_iff_toInt_lt, Int32.le_iff_toInt_le, e2, Int32.reduceToInt, e1] at *
                simp only [fCan, fBo, Bool.or_eq_true, Bool.and_eq_true, decide_eq_true_eq]
                split <;> first | rfl | (exfalso; grind)
              · refine r_iload_n (zdk oW_canStand 24 rfl) rfl rfl ?_
                refine r_bipush (v := 41) (zdk oW_canStand 25 rfl) (by decide) ?_
                refine r_icmp_gt (tgt := 56) (zdk oW_canStand 26 rfl) (by decide) (fun hc7 => ?_) (fun hc7 => ?_)
                · refine r_iconst (v := 0) (zdk oW_canStand 29 rfl) (by decide) ?_
                  refine r_zret (zdk oW_canStand 30 rfl) rfl (by decide) ?_
                  refine zIi ?_
                  have e2 : ∀ b : Bool, fBo b = 0 ↔ b = false := by intro b; cases b <;> decide
                  simp only [Int32.lt_iff_toInt_lt, Int32.le_iff_toInt_le, e2, Int32.reduceToInt, e1] at *
                  simp only [fCan, fBo, Bool.or_eq_true, Bool.and_eq_true, decide_eq_true_eq]
                  split <;> first | rfl | (exfalso; grind)
                · refine r_iconst (v := 1) (zdk oW_canStand 27 rfl) (by decide) ?_
                  refine r_goto (tgt := 57) (zdk oW_canStand 28 rfl) (by decide) ?_
                  refine r_zret (zdk oW_canStand 30 rfl) rfl (by decide) ?_
                  refine zIi ?_
                  have e2 : ∀ b : Bool, fBo b = 0 ↔ b = false := by intro b; cases b <;> decide
                  simp only [Int32.lt_iff_toInt_lt, Int32.le_iff_toInt_le, e2, Int32.reduceToInt, e1] at *
                  simp only [fCan, fBo, Bool.or_eq_true, Bool.and_eq_true, decide_eq_true_eq]
                  split <;> first | rfl | (exfalso; grind)
      · refine r_iload_n (zdk oW_canStand 8 rfl) rfl rfl ?_
        refine r_bipush (v := 100) (zdk oW_canStand 9 rfl) (by decide) ?_
        refine r_iload_n (zdk oW_canStand 10 rfl) rfl rfl ?_
        refine r_iadd (zdk oW_canStand 11 rfl) ?_
        refine r_icmp_lt (tgt := 52) (zdk oW_canStand 12 rfl) (by decide) (fun hc3 => ?_) (fun hc3 => ?_)
        · refine r_iconst (v := 1) (zdk oW_canStand 27 rfl) (by decide) ?_
          refine r_goto (tgt := 57) (zdk oW_canStand 28 rfl) (by decide) ?_
          refine r_zret (zdk oW_canStand 30 rfl) rfl (by decide) ?_
          refine zIi ?_
          have e2 : ∀ b : Bool, fBo b = 0 ↔ b = false := by intro b; cases b <;> decide
          simp only [Int32.lt_iff_toInt_lt, Int32.le_iff_toInt_le, e2, Int32.reduceToInt, e1] at *
          simp only [fCan, fBo, Bool.or_eq_true, Bool.and_eq_true, decide_eq_true_eq]
          split <;> first | rfl | (exfalso; grind)
        · refine r_iload_n (zdk oW_canStand 13 rfl) rfl rfl ?_
          refine r_bipush (v := 20) (zdk oW_canStand 14 rfl) (by decide) ?_
          refine r_icmp_lt (tgt := 36) (zdk oW_canStand 15 rfl) (by decide) (fun hc4 => ?_) (fun hc4 => ?_)
          · refine r_iload_n (zdk oW_canStand 19 rfl) rfl rfl ?_
            refine r_if_eq (tgt := 56) (zdk oW_canStand 20 rfl) (by decide) (fun hc5 => ?_) (fun hc5 => ?_)
            · refine r_iconst (v := 0) (zdk oW_canStand 29 rfl) (by decide) ?_
              refine r_zret (zdk oW_canStand 30 rfl) rfl (by decide) ?_
              refine zIi ?_
              have e2 : ∀ b : Bool, fBo b = 0 ↔ b = false := by intro b; cases b <;> decide
              simp only [Int32.lt_iff_toInt_lt, Int32.le_iff_toInt_le, e2, Int32.reduceToInt, e1] at *
              simp only [fCan, fBo, Bool.or_eq_true, Bool.and_eq_true, decide_eq_true_eq]
              split <;> first | rfl | (exfalso; grind)
            · refine r_iload_n (zdk oW_canStand 21 rfl) rfl rfl ?_
              refine r_bipush (v := 35) (zdk oW_canStand 22 rfl) (by decide) ?_
              refine r_icmp_lt (tgt := 56) (zdk oW_canStand 23 rfl) (by decide) (fun hc6 => ?_) (fun hc6 => ?_)
              · refine r_iconst (v := 0) (zdk oW_canStand 29 rfl) (by decide) ?_
                refine r_zret (zdk oW_canStand 30 rfl) rfl (by decide) ?_
                refine zIi ?_
                have e2 : ∀ b : Bool, fBo b = 0 ↔ b = false := by intro b; cases b <;> decide
                simp only [Int32.lt_iff_toInt_lt, Int32.le_iff_toInt_le, e2, Int32.reduceToInt, e1] at *
                simp only [fCan, fBo, Bool.or_eq_true, Bool.and_eq_true, decide_eq_true_eq]
                split <;> first | rfl | (exfalso; grind)
              · refine r_iload_n (zdk oW_canStand 24 rfl) rfl rfl ?_
                refine r_bipush (v := 41) (zdk oW_canStand 25 rfl) (by decide) ?_
                refine r_icmp_gt (tgt := 56) (zdk oW_canStand 26 rfl) (by decide) (fun hc7 => ?_) (fun hc7 => ?_)
                · refine r_iconst (v := 0) (zdk oW_canStand 29 rfl) (by decide) ?_
                  refine r_zret (zdk oW_canStand 30 rfl) rfl (by decide) ?_
                  refine zIi ?_
                  have e2 : ∀ b : Bool, fBo b = 0 ↔ b = false := by intro b; cases b <;> decide
                  simp only [Int32.lt_iff_toInt_lt, Int32.le_iff_toInt_le, e2, Int32.reduceToInt, e1] at *
                  simp only [fCan, fBo, Bool.or_eq_true, Bool.and_eq_true, decide_eq_true_eq]
                  split <;> first | rfl | (exfalso; grind)
                · refine r_iconst (v := 1) (zdk oW_canStand 27 rfl) (by decide) ?_
                  refine r_goto (tgt := 57) (zdk oW_canStand 28 rfl) (by decide) ?_
                  refine r_zret (zdk oW_canStand 30 rfl) rfl (by decide) ?_
                  refine zIi ?_
                  have e2 : ∀ b : Bool, fBo b = 0 ↔ b = false := by intro b; cases b <;> decide
                  simp only [Int32.lt_iff_toInt_lt, Int32.le_iff_toInt_le, e2, Int32.reduceToInt, e1] at *
                  simp only [fCan, fBo, Bool.or_eq_true, Bool.and_eq_true, decide_eq_true_eq]
                  split <;> first | rfl | (exfalso; grind)
          · refine r_iload_n (zdk oW_canStand 16 rfl) rfl rfl ?_
            refine r_bipush (v := 34) (zdk oW_canStand 17 rfl) (by decide) ?_
            refine r_icmp_le (tgt := 52) (zdk oW_canStand 18 rfl) (by decide) (fun hc5 => ?_) (fun hc5 => ?_)
            · refine r_iconst (v := 1) (zdk oW_canStand 27 rfl) (by decide) ?_
              refine r_goto (tgt := 57) (zdk oW_canStand 28 rfl) (by decide) ?_
              refine r_zret (zdk oW_canStand 30 rfl) rfl (by decide) ?_
              refine zIi ?_
              have e2 : ∀ b : Bool, fBo b = 0 ↔ b = false := by intro b; cases b <;> decide
              simp only [Int32.lt_iff_toInt_lt, Int32.le_iff_toInt_le, e2, Int32.reduceToInt, e1] at *
              simp only [fCan, fBo, Bool.or_eq_true, Bool.and_eq_true, decide_eq_true_eq]
              split <;> first | rfl | (exfalso; grind)
            · refine r_iload_n (zdk oW_canStand 19 rfl) rfl rfl ?_
              refine r_if_eq (tgt := 56) (zdk oW_canStand 20 rfl) (by decide) (fun hc6 => ?_) (fun hc6 => ?_)
              · refine r_iconst (v := 0) (zdk oW_canStand 29 rfl) (by decide) ?_
                refine r_zret (zdk oW_canStand 30 rfl) rfl (by decide) ?_
                refine zIi ?_
                have e2 : ∀ b : Bool, fBo b = 0 ↔ b = false := by intro b; cases b <;> decide
                simp only [Int32.lt_iff_toInt_lt, Int32.le_iff_toInt_le, e2, Int32.reduceToInt, e1] at *
                simp only [fCan, fBo, Bool.or_eq_true, Bool.and_eq_true, decide_eq_true_eq]
                split <;> first | rfl | (exfalso; grind)
              · refine r_iload_n (zdk oW_canStand 21 rfl) rfl rfl ?_
                refine r_bipush (v := 35) (zdk oW_canStand 22 rfl) (by decide) ?_
                refine r_icmp_lt (tgt := 56) (zdk oW_canStand 23 rfl) (by decide) (fun hc7 => ?_) (fun hc7 => ?_)
                · refine r_iconst (v := 0) (zdk oW_canStand 29 rfl) (by decide) ?_
                  refine r_zret (zdk oW_canStand 30 rfl) rfl (by decide) ?_
                  refine zIi ?_
                  have e2 : ∀ b : Bool, fBo b = 0 ↔ b = false := by intro b; cases b <;> decide
                  simp only [Int32.lt_iff_toInt_lt, Int32.le_iff_toInt_le, e2, Int32.reduceToInt, e1] at *
                  simp only [fCan, fBo, Bool.or_eq_true, Bool.and_eq_true, decide_eq_true_eq]
                  split <;> first | rfl | (exfalso; grind)
                · refine r_iload_n (zdk oW_canStand 24 rfl) rfl rfl ?_
                  refine r_bipush (v := 41) (zdk oW_canStand 25 rfl) (by decide) ?_
                  refine r_icmp_gt (tgt := 56) (zdk oW_canStand 26 rfl) (by decide) (fun hc8 => ?_) (fun hc8 => ?_)
                  · refine r_iconst (v := 0) (zdk oW_canStand 29 rfl) (by decide) ?_
                    refine r_zret (zdk oW_canStand 30 rfl) rfl (by decide) ?_
                    refine zIi ?_
                    have e2 : ∀ b : Bool, fBo b = 0 ↔ b = false := by intro b; cases b <;> decide
                    simp only [Int32.lt_iff_toInt_lt, Int32.le_iff_toInt_le, e2, Int32.reduceToInt, e1] at *
                    simp only [fCan, fBo, Bool.or_eq_true, Bool.and_eq_true, decide_eq_true_eq]
                    split <;> first | rfl | (exfalso; grind)
                  · refine r_iconst (v := 1) (zdk oW_canStand 27 rfl) (by decide) ?_
                    refine r_goto (tgt := 57) (zdk oW_canStand 28 rfl) (by decide) ?_
                    refine r_zret (zdk oW_canStand 30 rfl) rfl (by decide) ?_
                    refine zIi ?_
                    have e2 : ∀ b : Bool, fBo b = 0 ↔ b = false := by intro b; cases b <;> decide
                    simp only [Int32.lt_iff_toInt_lt, Int32.le_iff_toInt_le, e2, Int32.reduceToInt, e1] at *
                    simp only [fCan, fBo, Bool.or_eq_true, Bool.and_eq_true, decide_eq_true_eq]
                    split <;> first | rfl | (exfalso; grind)
/-- what a word of two parts makes of them -/
def f2 (w a b : Int32) : Int32 :=
  if w = 20 then (if 99 < a + b then 99 else a + b) else if w = 21 then (if a - b < 0 then 0 else a - b) else if w = 22 then (if 99 < a * b then 99 else a * b)
  else if w = 23 then (if b = 0 then 0 else a / b) else if w = 24 then (if b = 0 then 0 else a - a / b * b) else if w = 25 then fBo (decide (a = b)) else if w = 26 then fBo (decide (a < b))
  else if w = 27 then fBo (decide (¬ a = 0 ∧ ¬ b = 0)) else fBo (decide (¬ a = 0 ∨ ¬ b = 0))
theorem spW_ofTwo (d : Nat) (w a b : Int32) (h : zH) : zSP d 0 0 mW_ofTwo [.inl w, .inl a, .inl b] h (zI (f2 w a b) h) := by
  refine zmet (by decide +kernel) (Nat.le_of_ble_eq_true rfl) ?_
  refine r_iload_n (zdk oW_ofTwo 0 rfl) rfl rfl ?_
  refine r_nm (fun sx0 ex0 => ?_)
  by_cases hs0_0 : sx0 = 20
  · refine r_tabIn (off := 47) (tgt := 48) (zdk oW_ofTwo 1 rfl) (by rw [hs0_0]; decide) (by rw [hs0_0]; decide) (by rw [hs0_0]; rfl) (by decide) ?_
    refine r_iload_n (zdk oW_ofTwo 2 rfl) rfl rfl ?_
    refine r_iload_n (zdk oW_ofTwo 3 rfl) rfl rfl ?_
    refine r_iadd (zdk oW_ofTwo 4 rfl) ?_
    refine r_bipush (v := 99) (zdk oW_ofTwo 5 rfl) (by decide) ?_
    refine r_mmin (zdk oW_ofTwo 6 rfl) lM_W_11 lX_minS lX_math lX_minC (Nat.le_of_ble_eq_true rfl) rfl ?_
    refine r_iret (zdk oW_ofTwo 7 rfl) rfl ?_
    refine zIi ?_
    subst ex0
    simp_all [f2, fBo]
  by_cases hs0_1 : sx0 = 21
  · refine r_tabIn (off := 56) (tgt := 57) (zdk oW_ofTwo 1 rfl) (by rw [hs0_1]; decide) (by rw [hs0_1]; decide) (by rw [hs0_1]; rfl) (by decide) ?_
    refine r_iload_n (zdk oW_ofTwo 8 rfl) rfl rfl ?_
    refine r_iload_n (zdk oW_ofTwo 9 rfl) rfl rfl ?_
    refine r_isub (zdk oW_ofTwo 10 rfl) ?_
    refine r_iconst (v := 0) (zdk oW_ofTwo 11 rfl) (by decide) ?_
    refine r_mmax (zdk oW_ofTwo 12 rfl) lM_W_17 lX_maxS lX_math lX_maxC (Nat.le_of_ble_eq_true rfl) rfl ?_
    refine r_iret (zdk oW_ofTwo 13 rfl) rfl ?_
    refine zIi ?_
    subst ex0
    simp_all [f2, fBo]
  by_cases hs0_2 : sx0 = 22
  · refine r_tabIn (off := 64) (tgt := 65) (zdk oW_ofTwo 1 rfl) (by rw [hs0_2]; decide) (by rw [hs0_2]; decide) (by rw [hs0_2]; rfl) (by decide) ?_
    refine r_iload_n (zdk oW_ofTwo 14 rfl) rfl rfl ?_
    refine r_iload_n (zdk oW_ofTwo 15 rfl) rfl rfl ?_
    refine r_imul (zdk oW_ofTwo 16 rfl) ?_
    refine r_bipush (v := 99) (zdk oW_ofTwo 17 rfl) (by decide) ?_
    refine r_mmin (zdk oW_ofTwo 18 rfl) lM_W_11 lX_minS lX_math lX_minC (Nat.le_of_ble_eq_true rfl) rfl ?_
    refine r_iret (zdk oW_ofTwo 19 rfl) rfl ?_
    refine zIi ?_
    subst ex0
    simp_all [f2, fBo]
  by_cases hs0_3 : sx0 = 23
  · refine r_tabIn (off := 73) (tgt := 74) (zdk oW_ofTwo 1 rfl) (by rw [hs0_3]; decide) (by rw [hs0_3]; decide) (by rw [hs0_3]; rfl) (by decide) ?_
    refine r_iload_n (zdk oW_ofTwo 20 rfl) rfl rfl ?_
    refine r_if_ne (tgt := 82) (zdk oW_ofTwo 21 rfl) (by decide) (fun hc1 => ?_) (fun hc1 => ?_)
    · refine r_iload_n (zdk oW_ofTwo 24 rfl) rfl rfl ?_
      refine r_iload_n (zdk oW_ofTwo 25 rfl) rfl rfl ?_
      refine r_idiv (zdk oW_ofTwo 26 rfl) (by assumption) ?_
      refine r_iret (zdk oW_ofTwo 27 rfl) rfl ?_
      refine zIi ?_
      subst ex0
      simp_all [f2, fBo]
    · refine r_iconst (v := 0) (zdk oW_ofTwo 22 rfl) (by decide) ?_
      refine r_goto (tgt := 85) (zdk oW_ofTwo 23 rfl) (by decide) ?_
      refine r_iret (zdk oW_ofTwo 27 rfl) rfl ?_
      refine zIi ?_
      subst ex0
      simp_all [f2, fBo]
  by_cases hs0_4 : sx0 = 24
  · refine r_tabIn (off := 85) (tgt := 86) (zdk oW_ofTwo 1 rfl) (by rw [hs0_4]; decide) (by rw [hs0_4]; decide) (by rw [hs0_4]; rfl) (by decide) ?_
    refine r_iload_n (zdk oW_ofTwo 28 rfl) rfl rfl ?_
    refine r_if_ne (tgt := 94) (zdk oW_ofTwo 29 rfl) (by decide) (fun hc1 => ?_) (fun hc1 => ?_)
    · refine r_iload_n (zdk oW_ofTwo 32 rfl) rfl rfl ?_
      refine r_iload_n (zdk oW_ofTwo 33 rfl) rfl rfl ?_
      refine r_irem (zdk oW_ofTwo 34 rfl) (by assumption) ?_
      refine r_iret (zdk oW_ofTwo 35 rfl) rfl ?_
      refine zIi ?_
      subst ex0
      simp_all [f2, fBo]
    · refine r_iconst (v := 0) (zdk oW_ofTwo 30 rfl) (by decide) ?_
      refine r_goto (tgt := 97) (zdk oW_ofTwo 31 rfl) (by decide) ?_
      refine r_iret (zdk oW_ofTwo 35 rfl) rfl ?_
      refine zIi ?_
      subst ex0
      simp_all [f2, fBo]
  by_cases hs0_5 : sx0 = 25
  · refine r_tabIn (off := 97) (tgt := 98) (zdk oW_ofTwo 1 rfl) (by rw [hs0_5]; decide) (by rw [hs0_5]; decide) (by rw [hs0_5]; rfl) (by decide) ?_
    refine r_iload_n (zdk oW_ofTwo 36 rfl) rfl rfl ?_
    refine r_iload_n (zdk oW_ofTwo 37 rfl) rfl rfl ?_
    refine r_icmp_ne (tgt := 107) (zdk oW_ofTwo 38 rfl) (by decide) (fun hc1 => ?_) (fun hc1 => ?_)
    · refine r_iconst (v := 0) (zdk oW_ofTwo 41 rfl) (by decide) ?_
      refine r_iret (zdk oW_ofTwo 42 rfl) rfl ?_
      refine zIi ?_
      subst ex0
      simp_all [f2, fBo]
    · refine r_iconst (v := 1) (zdk oW_ofTwo 39 rfl) (by decide) ?_
      refine r_goto (tgt := 108) (zdk oW_ofTwo 40 rfl) (by decide) ?_
      refine r_iret (zdk oW_ofTwo 42 rfl) rfl ?_
      refine zIi ?_
      subst ex0
      simp_all [f2, fBo]
  by_cases hs0_6 : sx0 = 26
  · refine r_tabIn (off := 108) (tgt := 109) (zdk oW_ofTwo 1 rfl) (by rw [hs0_6]; decide) (by rw [hs0_6]; decide) (by rw [hs0_6]; rfl) (by decide) ?_
    refine r_iload_n (zdk oW_ofTwo 43 rfl) rfl rfl ?_
    refine r_iload_n (zdk oW_ofTwo 44 rfl) rfl rfl ?_
    refine r_icmp_ge (tgt := 118) (zdk oW_ofTwo 45 rfl) (by decide) (fun hc1 => ?_) (fun hc1 => ?_)
    · refine r_iconst (v := 0) (zdk oW_ofTwo 48 rfl) (by decide) ?_
      refine r_iret (zdk oW_ofTwo 49 rfl) rfl ?_
      refine zIi ?_
      subst ex0
      simp_all [f2, fBo]
    · refine r_iconst (v := 1) (zdk oW_ofTwo 46 rfl) (by decide) ?_
      refine r_goto (tgt := 119) (zdk oW_ofTwo 47 rfl) (by decide) ?_
      refine r_iret (zdk oW_ofTwo 49 rfl) rfl ?_
      refine zIi ?_
      subst ex0
      simp_all [f2, fBo]
  by_cases hs0_7 : sx0 = 27
  · refine r_tabIn (off := 119) (tgt := 120) (zdk oW_ofTwo 1 rfl) (by rw [hs0_7]; decide) (by rw [hs0_7]; decide) (by rw [hs0_7]; rfl) (by decide) ?_
    refine r_iload_n (zdk oW_ofTwo 50 rfl) rfl rfl ?_
    refine r_if_eq (tgt := 132) (zdk oW_ofTwo 51 rfl) (by decide) (fun hc1 => ?_) (fun hc1 => ?_)
    · refine r_iconst (v := 0) (zdk oW_ofTwo 56 rfl) (by decide) ?_
      refine r_iret (zdk oW_ofTwo 57 rfl) rfl ?_
      refine zIi ?_
      subst ex0
      simp_all [f2, fBo]
    · refine r_iload_n (zdk oW_ofTwo 52 rfl) rfl rfl ?_
      refine r_if_eq (tgt := 132) (zdk oW_ofTwo 53 rfl) (by decide) (fun hc2 => ?_) (fun hc2 => ?_)
      · refine r_iconst (v := 0) (zdk oW_ofTwo 56 rfl) (by decide) ?_
        refine r_iret (zdk oW_ofTwo 57 rfl) rfl ?_
        refine zIi ?_
        subst ex0
        simp_all [f2, fBo]
      · refine r_iconst (v := 1) (zdk oW_ofTwo 54 rfl) (by decide) ?_
        refine r_goto (tgt := 133) (zdk oW_ofTwo 55 rfl) (by decide) ?_
        refine r_iret (zdk oW_ofTwo 57 rfl) rfl ?_
        refine zIi ?_
        subst ex0
        simp_all [f2, fBo]
  refine r_tabOut (tgt := 134) (zdk oW_ofTwo 1 rfl) (by simp only [← Int32.toInt_inj, Int32.reduceToInt] at hs0_0 hs0_1 hs0_2 hs0_3 hs0_4 hs0_5 hs0_6 hs0_7; omega) (by decide) ?_
  refine r_iload_n (zdk oW_ofTwo 58 rfl) rfl rfl ?_
  refine r_if_ne (tgt := 142) (zdk oW_ofTwo 59 rfl) (by decide) (fun hc1 => ?_) (fun hc1 => ?_)
  · refine r_iconst (v := 1) (zdk oW_ofTwo 62 rfl) (by decide) ?_
    refine r_goto (tgt := 147) (zdk oW_ofTwo 63 rfl) (by decide) ?_
    refine r_iret (zdk oW_ofTwo 65 rfl) rfl ?_
    refine zIi ?_
    subst ex0
    simp_all [f2, fBo]
  · refine r_iload_n (zdk oW_ofTwo 60 rfl) rfl rfl ?_
    refine r_if_eq (tgt := 146) (zdk oW_ofTwo 61 rfl) (by decide) (fun hc2 => ?_) (fun hc2 => ?_)
    · refine r_iconst (v := 0) (zdk oW_ofTwo 64 rfl) (by decide) ?_
      refine r_iret (zdk oW_ofTwo 65 rfl) rfl ?_
      refine zIi ?_
      subst ex0
      simp_all [f2, fBo]
    · refine r_iconst (v := 1) (zdk oW_ofTwo 62 rfl) (by decide) ?_
      refine r_goto (tgt := 147) (zdk oW_ofTwo 63 rfl) (by decide) ?_
      refine r_iret (zdk oW_ofTwo 65 rfl) rfl ?_
      refine zIi ?_
      subst ex0
      simp_all [f2, fBo]
