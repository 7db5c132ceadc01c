/-! the law's methods that call the class: names, instructions, what the tables say -/
def zOkW (M' : zM) (n : Nat) : Prop := (Cond.codeWith M'.1 M'.2.1 M'.2.2.1 M'.2.2.2 (zxt M') ∈ ztb ∧ (M'.1.cls ≠ "java/lang/invoke/MethodHandle" ∧ M'.1.cls ≠ "java/lang/invoke/VarHandle" ∧ (parseMethodDescriptor M'.1.desc).map (fun d => d.parameters.length) = some n) ∧ M'.2.2.1 ≤ 180 ∧ Cond.initialized M'.1.cls ∈ ztb) ∧ Cond.static M'.1 ∈ ztb
abbrev mZ_word : zM := (⟨"RoundLabLaw", "word", "(LRoundLab;I[J)I"⟩, method_3_code, 4, (some .int))
def tZ_word : List (Nat × Instr × Nat) := [(0, .aload_n 2, 1), (1, .iconst 0, 1), (2, .aload_n 0, 1), (3, .iload_n 1, 1), (4, .invokevirtual 7, 3), (7, .i2l, 1), (8, .lastore, 1), (9, .goto 6, 3), (12, .astore_n 3, 1), (13, .iconst 1, 1), (14, .ireturn, 1), (15, .iconst 0, 1), (16, .ireturn, 1)]
set_option maxRecDepth 100000 in
theorem oZ_word : (tZ_word).all (fun q => decide (decode method_3_code q.1 = .ok q.2)) = true := by decide +kernel
theorem wZ_word : zOkW mZ_word 3 := ⟨⟨zmem 336 (by decide +kernel) (by decide +kernel), ⟨by decide, by decide, by decide +kernel⟩, by decide, zmem 50 (by decide +kernel) (by decide +kernel)⟩, zmem 335 (by decide +kernel) (by decide +kernel)⟩
abbrev mZ_builtin : zM := (⟨"RoundLabLaw", "builtin", "(LRoundLab;I[J)I"⟩, method_4_code, 4, (some .int))
def tZ_builtin : List (Nat × Instr × Nat) := [(0, .aload_n 2, 1), (1, .iconst 0, 1), (2, .aload_n 0, 1), (3, .iload_n 1, 1), (4, .invokevirtual 15, 3), (7, .i2l, 1), (8, .lastore, 1), (9, .goto 6, 3), (12, .astore_n 3, 1), (13, .iconst 1, 1), (14, .ireturn, 1), (15, .iconst 0, 1), (16, .ireturn, 1)]
set_option maxRecDepth 100000 in
theorem oZ_builtin : (tZ_builtin).all (fun q => decide (decode method_4_code q.1 = .ok q.2)) = true := by decide +kernel
theorem wZ_builtin : zOkW mZ_builtin 3 := ⟨⟨zmem 416 (by decide +kernel) (by decide +kernel), ⟨by decide, by decide, by decide +kernel⟩, by decide, zmem 50 (by decide +kernel) (by decide +kernel)⟩, zmem 415 (by decide +kernel) (by decide +kernel)⟩
abbrev mZ_deep : zM := (⟨"RoundLabLaw", "deep", "(LRoundLab;II[J)I"⟩, method_5_code, 5, (some .int))
def tZ_deep : List (Nat × Instr × Nat) := [(0, .aload_n 3, 1), (1, .iconst 0, 1), (2, .aload_n 0, 1), (3, .iload_n 1, 1), (4, .iload_n 2, 1), (5, .invokevirtual 20, 3), (8, .i2l, 1), (9, .lastore, 1), (10, .goto 11, 3), (13, .astore 4, 2), (15, .iconst 1, 1), (16, .ireturn, 1), (17, .astore 4, 2), (19, .iconst 2, 1), (20, .ireturn, 1), (21, .iconst 0, 1), (22, .ireturn, 1)]
set_option maxRecDepth 100000 in
theorem oZ_deep : (tZ_deep).all (fun q => decide (decode method_5_code q.1 = .ok q.2)) = true := by decide +kernel
theorem wZ_deep : zOkW mZ_deep 4 := ⟨⟨zmem 453 (by decide +kernel) (by decide +kernel), ⟨by decide, by decide, by decide +kernel⟩, by decide, zmem 50 (by decide +kernel) (by decide +kernel)⟩, zmem 452 (by decide +kernel) (by decide +kernel)⟩
abbrev mZ_input : zM := (⟨"RoundLabLaw", "input", "(LRoundLab;II[J)I"⟩, method_6_code, 5, (some .int))
def tZ_input : List (Nat × Instr × Nat) := [(0, .aload_n 3, 1), (1, .iconst 0, 1), (2, .aload_n 0, 1), (3, .iload_n 1, 1), (4, .iload_n 2, 1), (5, .invokevirtual 24, 3), (8, .i2l, 1), (9, .lastore, 1), (10, .goto 11, 3), (13, .astore 4, 2), (15, .iconst 1, 1), (16, .ireturn, 1), (17, .astore 4, 2), (19, .iconst 2, 1), (20, .ireturn, 1), (21, .iconst 0, 1), (22, .ireturn, 1)]
set_option maxRecDepth 100000 in
theorem oZ_input : (tZ_input).all (fun q => decide (decode method_6_code q.1 = .ok q.2)) = true := by decide +kernel
theorem wZ_input : zOkW mZ_input 4 := ⟨⟨zmem 470 (by decide +kernel) (by decide +kernel), ⟨by decide, by decide, by decide +kernel⟩, by decide, zmem 50 (by decide +kernel) (by decide +kernel)⟩, zmem 469 (by decide +kernel) (by decide +kernel)⟩
abbrev mZ_start : zM := (⟨"RoundLabLaw", "start", "(LRoundLab;I)I"⟩, method_7_code, 3, (some .int))
def tZ_start : List (Nat × Instr × Nat) := [(0, .aload_n 0, 1), (1, .iload_n 1, 1), (2, .invokevirtual 29, 3), (5, .goto 9, 3), (8, .astore_n 2, 1), (9, .iconst 1, 1), (10, .ireturn, 1), (11, .astore_n 2, 1), (12, .iconst 2, 1), (13, .ireturn, 1), (14, .iconst 0, 1), (15, .ireturn, 1)]
set_option maxRecDepth 100000 in
theorem oZ_start : (tZ_start).all (fun q => decide (decode method_7_code q.1 = .ok q.2)) = true := by decide +kernel
theorem wZ_start : zOkW mZ_start 2 := ⟨⟨zmem 498 (by decide +kernel) (by decide +kernel), ⟨by decide, by decide, by decide +kernel⟩, by decide, zmem 50 (by decide +kernel) (by decide +kernel)⟩, zmem 497 (by decide +kernel) (by decide +kernel)⟩
abbrev mZ_hear : zM := (⟨"RoundLabLaw", "hear", "(LRoundLab;II[J)I"⟩, method_8_code, 5, (some .int))
def tZ_hear : List (Nat × Instr × Nat) := [(0, .aload_n 3, 1), (1, .iconst 0, 1), (2, .aload_n 0, 1), (3, .iload_n 1, 1), (4, .iload_n 2, 1), (5, .invokevirtual 33, 3), (8, .i2l, 1), (9, .lastore, 1), (10, .goto 11, 3), (13, .astore 4, 2), (15, .iconst 1, 1), (16, .ireturn, 1), (17, .astore 4, 2), (19, .iconst 2, 1), (20, .ireturn, 1), (21, .iconst 0, 1), (22, .ireturn, 1)]
set_option maxRecDepth 100000 in
theorem oZ_hear : (tZ_hear).all (fun q => decide (decode method_8_code q.1 = .ok q.2)) = true := by decide +kernel
theorem wZ_hear : zOkW mZ_hear 4 := ⟨⟨zmem 527 (by decide +kernel) (by decide +kernel), ⟨by decide, by decide, by decide +kernel⟩, by decide, zmem 50 (by decide +kernel) (by decide +kernel)⟩, zmem 526 (by decide +kernel) (by decide +kernel)⟩
abbrev mZ_round : zM := (⟨"RoundLabLaw", "round", "(LRoundLab;[J)I"⟩, method_9_code, 3, (some .int))
def tZ_round : List (Nat × Instr × Nat) := [(0, .aload_n 1, 1), (1, .iconst 0, 1), (2, .aload_n 0, 1), (3, .invokevirtual 36, 3), (6, .i2l, 1), (7, .lastore, 1), (8, .goto 6, 3), (11, .astore_n 2, 1), (12, .iconst 1, 1), (13, .ireturn, 1), (14, .iconst 0, 1), (15, .ireturn, 1)]
set_option maxRecDepth 100000 in
theorem oZ_round : (tZ_round).all (fun q => decide (decode method_9_code q.1 = .ok q.2)) = true := by decide +kernel
theorem wZ_round : zOkW mZ_round 2 := ⟨⟨zmem 545 (by decide +kernel) (by decide +kernel), ⟨by decide, by decide, by decide +kernel⟩, by decide, zmem 50 (by decide +kernel) (by decide +kernel)⟩, zmem 544 (by decide +kernel) (by decide +kernel)⟩
abbrev mZ_state : zM := (⟨"RoundLabLaw", "state", "(LRoundLab;II[J)I"⟩, method_10_code, 5, (some .int))
def tZ_state : List (Nat × Instr × Nat) := [(0, .aload_n 3, 1), (1, .iconst 0, 1), (2, .aload_n 0, 1), (3, .iload_n 1, 1), (4, .iload_n 2, 1), (5, .invokevirtual 40, 3), (8, .i2l, 1), (9, .lastore, 1), (10, .goto 7, 3), (13, .astore 4, 2), (15, .iconst 1, 1), (16, .ireturn, 1), (17, .iconst 0, 1), (18, .ireturn, 1)]
set_option maxRecDepth 100000 in
theorem oZ_state : (tZ_state).all (fun q => decide (decode method_10_code q.1 = .ok q.2)) = true := by decide +kernel
theorem wZ_state : zOkW mZ_state 4 := ⟨⟨zmem 607 (by decide +kernel) (by decide +kernel), ⟨by decide, by decide, by decide +kernel⟩, by decide, zmem 50 (by decide +kernel) (by decide +kernel)⟩, zmem 606 (by decide +kernel) (by decide +kernel)⟩
abbrev mZ_decided : zM := (⟨"RoundLabLaw", "decided", "(LRoundLab;I[J)I"⟩, method_11_code, 4, (some .int))
def tZ_decided : List (Nat × Instr × Nat) := [(0, .aload_n 2, 1), (1, .iconst 0, 1), (2, .aload_n 0, 1), (3, .iload_n 1, 1), (4, .invokevirtual 43, 3), (7, .i2l, 1), (8, .lastore, 1), (9, .goto 6, 3), (12, .astore_n 3, 1), (13, .iconst 1, 1), (14, .ireturn, 1), (15, .iconst 0, 1), (16, .ireturn, 1)]
set_option maxRecDepth 100000 in
theorem oZ_decided : (tZ_decided).all (fun q => decide (decode method_11_code q.1 = .ok q.2)) = true := by decide +kernel
theorem wZ_decided : zOkW mZ_decided 3 := ⟨⟨zmem 616 (by decide +kernel) (by decide +kernel), ⟨by decide, by decide, by decide +kernel⟩, by decide, zmem 50 (by decide +kernel) (by decide +kernel)⟩, zmem 615 (by decide +kernel) (by decide +kernel)⟩
abbrev mZ_message : zM := (⟨"RoundLabLaw", "message", "(LRoundLab;I[J)I"⟩, method_12_code, 4, (some .int))
def tZ_message : List (Nat × Instr × Nat) := [(0, .aload_n 2, 1), (1, .iconst 0, 1), (2, .aload_n 0, 1), (3, .iload_n 1, 1), (4, .invokevirtual 46, 3), (7, .i2l, 1), (8, .lastore, 1), (9, .goto 6, 3), (12, .astore_n 3, 1), (13, .iconst 1, 1), (14, .ireturn, 1), (15, .iconst 0, 1), (16, .ireturn, 1)]
set_option maxRecDepth 100000 in
theorem oZ_message : (tZ_message).all (fun q => decide (decode method_12_code q.1 = .ok q.2)) = true := by decide +kernel
theorem wZ_message : zOkW mZ_message 3 := ⟨⟨zmem 623 (by decide +kernel) (by decide +kernel), ⟨by decide, by decide, by decide +kernel⟩, by decide, zmem 50 (by decide +kernel) (by decide +kernel)⟩, zmem 622 (by decide +kernel) (by decide +kernel)⟩
abbrev mZ_explore : zM := (⟨"RoundLabLaw", "explore", "(LRoundLab;IIII[J)I"⟩, method_13_code, 7, (some .int))
def tZ_explore : List (Nat × Instr × Nat) := [(0, .aload 5, 2), (2, .iconst 0, 1), (3, .aload_n 0, 1), (4, .iload_n 1, 1), (5, .iload_n 2, 1), (6, .iload_n 3, 1), (7, .iload 4, 2), (9, .invokevirtual 49, 3), (12, .i2l, 1), (13, .lastore, 1), (14, .goto 11, 3), (17, .astore 6, 2), (19, .iconst 1, 1), (20, .ireturn, 1), (21, .astore 6, 2), (23, .iconst 2, 1), (24, .ireturn, 1), (25, .iconst 0, 1), (26, .ireturn, 1)]
set_option maxRecDepth 100000 in
theorem oZ_explore : (tZ_explore).all (fun q => decide (decode method_13_code q.1 = .ok q.2)) = true := by decide +kernel
theorem wZ_explore : zOkW mZ_explore 6 := ⟨⟨zmem 630 (by decide +kernel) (by decide +kernel), ⟨by decide, by decide, by decide +kernel⟩, by decide, zmem 50 (by decide +kernel) (by decide +kernel)⟩, zmem 629 (by decide +kernel) (by decide +kernel)⟩
abbrev mZ_trace : zM := (⟨"RoundLabLaw", "trace", "(LRoundLab;I[J)I"⟩, method_14_code, 4, (some .int))
def tZ_trace : List (Nat × Instr × Nat) := [(0, .aload_n 2, 1), (1, .iconst 0, 1), (2, .aload_n 0, 1), (3, .iload_n 1, 1), (4, .invokevirtual 53, 3), (7, .i2l, 1), (8, .lastore, 1), (9, .goto 6, 3), (12, .astore_n 3, 1), (13, .iconst 1, 1), (14, .ireturn, 1), (15, .iconst 0, 1), (16, .ireturn, 1)]
set_option maxRecDepth 100000 in
theorem oZ_trace : (tZ_trace).all (fun q => decide (decode method_14_code q.1 = .ok q.2)) = true := by decide +kernel
theorem wZ_trace : zOkW mZ_trace 3 := ⟨⟨zmem 718 (by decide +kernel) (by decide +kernel), ⟨by decide, by decide, by decide +kernel⟩, by decide, zmem 50 (by decide +kernel) (by decide +kernel)⟩, zmem 717 (by decide +kernel) (by decide +kernel)⟩
abbrev mZ_at : zM := (⟨"RoundLabLaw", "at", "(LRoundLab;I[J)I"⟩, method_15_code, 4, (some .int))
def tZ_at : List (Nat × Instr × Nat) := [(0, .aload_n 2, 1), (1, .iconst 0, 1), (2, .aload_n 0, 1), (3, .iload_n 1, 1), (4, .invokevirtual 56, 3), (7, .i2l, 1), (8, .lastore, 1), (9, .goto 6, 3), (12, .astore_n 3, 1), (13, .iconst 1, 1), (14, .ireturn, 1), (15, .iconst 0, 1), (16, .ireturn, 1)]
set_option maxRecDepth 100000 in
theorem oZ_at : (tZ_at).all (fun q => decide (decode method_15_code q.1 = .ok q.2)) = true := by decide +kernel
theorem wZ_at : zOkW mZ_at 3 := ⟨⟨zmem 726 (by decide +kernel) (by decide +kernel), ⟨by decide, by decide, by decide +kernel⟩, by decide, zmem 50 (by decide +kernel) (by decide +kernel)⟩, zmem 725 (by decide +kernel) (by decide +kernel)⟩
abbrev mZ_count : zM := (⟨"RoundLabLaw", "count", "(LRoundLab;I[J)I"⟩, method_16_code, 4, (some .int))
def tZ_count : List (Nat × Instr × Nat) := [(0, .aload_n 2, 1), (1, .iconst 0, 1), (2, .aload_n 0, 1), (3, .iload_n 1, 1), (4, .invokevirtual 59, 3), (7, .i2l, 1), (8, .lastore, 1), (9, .goto 6, 3), (12, .astore_n 3, 1), (13, .iconst 1, 1), (14, .ireturn, 1), (15, .iconst 0, 1), (16, .ireturn, 1)]
set_option maxRecDepth 100000 in
theorem oZ_count : (tZ_count).all (fun q => decide (decode method_16_code q.1 = .ok q.2)) = true := by decide +kernel
theorem wZ_count : zOkW mZ_count 3 := ⟨⟨zmem 734 (by decide +kernel) (by decide +kernel), ⟨by decide, by decide, by decide +kernel⟩, by decide, zmem 50 (by decide +kernel) (by decide +kernel)⟩, zmem 733 (by decide +kernel) (by decide +kernel)⟩
