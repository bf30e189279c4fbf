/-! contracts of the reference, first its leaves -/
theorem c_in {l : Launch} {X : Cx} {Q : Qt} {M : Me} {x a b : Int} (hx : -2147483648 ≤ x ∧ x ≤ 2147483647) (ha : -2147483648 ≤ a ∧ a ≤ 2147483647) (hb : -2147483648 ≤ b ∧ b ≤ 2147483647) (h1 : a ≤ x ∧ x ≤ b → Q (some (vI 1)) M) (h0 : ¬ (a ≤ x ∧ x ≤ b) → Q (some (vI 0)) M) : TM l X shM 0 mX10_in [vL x, vL a, vL b] M Q := by
  have e0 : ¬ (a ≤ x ∧ x ≤ b) → Tf l X shM 0 mX10_in Q 17 [none, none, none, none, none, none] [] M := by
    intro h
    (first | refine BX10_in_0 ?_ | refine BX10_in_17 ?_ | refine BX10_in_18 ?_)
    dsimp only [bX10_in_0, bX10_in_17, bX10_in_18, o_ic, o_lcmp, o_lld, o_zgt, o_zlt, o_zret, tk, lget, lput, lkill, lmask, ol]
    try simp only [up, upL, Nat.reduceEqDiff, reduceIte, Int.reduceNeg, Int.reduceLE, Int.reduceLT, Int.reduceEq, Int.reduceAdd, Int.reduceSub, Int.reduceMul, ne_eq, not_true_eq_false, not_false_eq_true, true_and, and_true, and_self, false_implies, true_implies, implies_true, forall_const, Nat.reduceAdd, Int.add_zero, Int.zero_add, List.length_nil, List.length_cons]
    (first | refine BX10_in_0 ?_ | refine BX10_in_17 ?_ | refine BX10_in_18 ?_)
    dsimp only [bX10_in_0, bX10_in_17, bX10_in_18, o_ic, o_lcmp, o_lld, o_zgt, o_zlt, o_zret, tk, lget, lput, lkill, lmask, ol]
    try simp only [up, upL, Nat.reduceEqDiff, reduceIte, Int.reduceNeg, Int.reduceLE, Int.reduceLT, Int.reduceEq, Int.reduceAdd, Int.reduceSub, Int.reduceMul, ne_eq, not_true_eq_false, not_false_eq_true, true_and, and_true, and_self, false_implies, true_implies, implies_true, forall_const, Nat.reduceAdd, Int.add_zero, Int.zero_add, List.length_nil, List.length_cons]
    exact ⟨Or.inl rfl, h0 h⟩
  have e1 : a ≤ x ∧ x ≤ b → Tf l X shM 0 mX10_in Q 18 [none, none, none, none, none, none] [vI 1] M := by
    intro h
    (first | refine BX10_in_0 ?_ | refine BX10_in_17 ?_ | refine BX10_in_18 ?_)
    dsimp only [bX10_in_0, bX10_in_17, bX10_in_18, o_ic, o_lcmp, o_lld, o_zgt, o_zlt, o_zret, tk, lget, lput, lkill, lmask, ol]
    try simp only [up, upL, Nat.reduceEqDiff, reduceIte, Int.reduceNeg, Int.reduceLE, Int.reduceLT, Int.reduceEq, Int.reduceAdd, Int.reduceSub, Int.reduceMul, ne_eq, not_true_eq_false, not_false_eq_true, true_and, and_true, and_self, false_implies, true_implies, implies_true, forall_const, Nat.reduceAdd, Int.add_zero, Int.zero_add, List.length_nil, List.length_cons]
    exact ⟨Or.inr rfl, h1 h⟩
  refine EX10_in rfl ?_
  (first | refine BX10_in_0 ?_ | refine BX10_in_17 ?_ | refine BX10_in_18 ?_)
  dsimp only [bX10_in_0, bX10_in_17, bX10_in_18, o_ic, o_lcmp, o_lld, o_zgt, o_zlt, o_zret, tk, lget, lput, lkill, lmask, ol, lent]
  try simp only [up, upL, Nat.reduceEqDiff, reduceIte, Int.reduceNeg, Int.reduceLE, Int.reduceLT, Int.reduceEq, Int.reduceAdd, Int.reduceSub, Int.reduceMul, ne_eq, not_true_eq_false, not_false_eq_true, true_and, and_true, and_self, false_implies, true_implies, implies_true, forall_const, Nat.reduceAdd, Int.add_zero, Int.zero_add, List.length_nil, List.length_cons]
  refine ⟨by omega, by omega, fun h => e0 (by omega), fun h => ?_, fun h => ?_⟩
  · exact ⟨by omega, by omega, fun q => e1 (by omega), fun q => e1 (by omega), fun q => e0 (by omega)⟩
  · exact ⟨by omega, by omega, fun q => e1 (by omega), fun q => e1 (by omega), fun q => e0 (by omega)⟩
theorem c_isBox {l : Launch} {X : Cx} {Q : Qt} {M : Me} {b : Int} (hx : -2147483648 ≤ b ∧ b ≤ 2147483647) (hb : 0 ≤ M.1 0 1 ∧ M.1 0 1 ≤ 7) (h1 : 0 ≤ b ∧ b < M.1 0 1 → Q (some (vI 1)) M) (h0 : ¬ (0 ≤ b ∧ b < M.1 0 1) → Q (some (vI 0)) M) : TM l X shM 1 mX10_isBox [vR 0, vI b] M Q := by
  refine EX10_isBox rfl ?_
  (first | refine BX10_isBox_0 ?_ | refine BX10_isBox_13 ?_)
  dsimp only [bX10_isBox_0, bX10_isBox_13, o_ald, o_gf, o_i2l, o_ic, o_ild, o_lc, o_s3, o_sub, o_zret, tk, lget, lput, lkill, lmask, ol, lent, flM_0_0, flM_0_1, flM_0_2, flM_0_3, flM_0_4, flM_0_5, flM_0_6, flM_0_7, flM_0_8, flM_0_9, flM_0_10, flM_0_11, flM_0_12, flM_0_13, flM_0_14, flM_0_15, flM_0_16, flM_0_17, flM_0_18, flM_0_19, flM_0_20, flM_0_21, flM_0_22, flM_0_23, flM_0_24, flM_0_25, flM_0_26, flM_0_27, flM_0_28, flM_0_29, flM_0_30, flM_0_31, flM_0_32, flM_0_33, flM_0_34, flM_0_35, flM_0_36, flM_0_37, flM_0_38, flM_0_39, flM_0_40, flM_0_41, arM_1, arM_2, arM_3, arM_4, arM_5, arM_6, arM_7, arM_8, arM_9, arM_10, arM_11, arM_12, arM_13, arM_14, arM_15, arM_16, arM_17, arM_18, arM_19, arM_20, arM_21, arM_22, arM_23, arM_24, arM_25]
  try simp only [up, upL, Nat.reduceEqDiff, reduceIte, Int.reduceNeg, Int.reduceLE, Int.reduceLT, Int.reduceEq, Int.reduceAdd, Int.reduceSub, Int.reduceMul, ne_eq, not_true_eq_false, not_false_eq_true, true_and, and_true, and_self, false_implies, true_implies, implies_true, forall_const, Nat.reduceAdd, Int.add_zero, Int.zero_add, List.length_nil, List.length_cons]
  refine ⟨by omega, by omega, rfl, ?_⟩
  refine c_in hx (by omega) (by omega) (fun h => ?_) (fun h => ?_)
  · (first | refine BX10_isBox_0 ?_ | refine BX10_isBox_13 ?_)
    dsimp only [bX10_isBox_0, bX10_isBox_13, o_ald, o_gf, o_i2l, o_ic, o_ild, o_lc, o_s3, o_sub, o_zret, tk, lget, lput, lkill, lmask, ol, flM_0_0, flM_0_1, flM_0_2, flM_0_3, flM_0_4, flM_0_5, flM_0_6, flM_0_7, flM_0_8, flM_0_9, flM_0_10, flM_0_11, flM_0_12, flM_0_13, flM_0_14, flM_0_15, flM_0_16, flM_0_17, flM_0_18, flM_0_19, flM_0_20, flM_0_21, flM_0_22, flM_0_23, flM_0_24, flM_0_25, flM_0_26, flM_0_27, flM_0_28, flM_0_29, flM_0_30, flM_0_31, flM_0_32, flM_0_33, flM_0_34, flM_0_35, flM_0_36, flM_0_37, flM_0_38, flM_0_39, flM_0_40, flM_0_41, arM_1, arM_2, arM_3, arM_4, arM_5, arM_6, arM_7, arM_8, arM_9, arM_10, arM_11, arM_12, arM_13, arM_14, arM_15, arM_16, arM_17, arM_18, arM_19, arM_20, arM_21, arM_22, arM_23, arM_24, arM_25]
    try simp only [up, upL, Nat.reduceEqDiff, reduceIte, Int.reduceNeg, Int.reduceLE, Int.reduceLT, Int.reduceEq, Int.reduceAdd, Int.reduceSub, Int.reduceMul, ne_eq, not_true_eq_false, not_false_eq_true, true_and, and_true, and_self, false_implies, true_implies, implies_true, forall_const, Nat.reduceAdd, Int.add_zero, Int.zero_add, List.length_nil, List.length_cons]
    exact ⟨Or.inr rfl, h1 (by omega)⟩
  · (first | refine BX10_isBox_0 ?_ | refine BX10_isBox_13 ?_)
    dsimp only [bX10_isBox_0, bX10_isBox_13, o_ald, o_gf, o_i2l, o_ic, o_ild, o_lc, o_s3, o_sub, o_zret, tk, lget, lput, lkill, lmask, ol, flM_0_0, flM_0_1, flM_0_2, flM_0_3, flM_0_4, flM_0_5, flM_0_6, flM_0_7, flM_0_8, flM_0_9, flM_0_10, flM_0_11, flM_0_12, flM_0_13, flM_0_14, flM_0_15, flM_0_16, flM_0_17, flM_0_18, flM_0_19, flM_0_20, flM_0_21, flM_0_22, flM_0_23, flM_0_24, flM_0_25, flM_0_26, flM_0_27, flM_0_28, flM_0_29, flM_0_30, flM_0_31, flM_0_32, flM_0_33, flM_0_34, flM_0_35, flM_0_36, flM_0_37, flM_0_38, flM_0_39, flM_0_40, flM_0_41, arM_1, arM_2, arM_3, arM_4, arM_5, arM_6, arM_7, arM_8, arM_9, arM_10, arM_11, arM_12, arM_13, arM_14, arM_15, arM_16, arM_17, arM_18, arM_19, arM_20, arM_21, arM_22, arM_23, arM_24, arM_25]
    try simp only [up, upL, Nat.reduceEqDiff, reduceIte, Int.reduceNeg, Int.reduceLE, Int.reduceLT, Int.reduceEq, Int.reduceAdd, Int.reduceSub, Int.reduceMul, ne_eq, not_true_eq_false, not_false_eq_true, true_and, and_true, and_self, false_implies, true_implies, implies_true, forall_const, Nat.reduceAdd, Int.add_zero, Int.zero_add, List.length_nil, List.length_cons]
    exact ⟨Or.inl rfl, h0 (by omega)⟩
theorem c_turn {l : Launch} {X : Cx} {Q : Qt} {M : Me} {b : Int} (hx : -2147483648 ≤ b ∧ b ≤ 2147483647) : TM l X shM 6 mX10_turn [vR 0, vI b] M Q := by
  refine EX10_turn rfl ?_
  (first | refine BX10_turn_0 ?_ | refine BX10_turn_41 ?_ | refine BX10_turn_44 ?_ | refine BX10_turn_70 ?_ | refine BX10_turn_71 ?_ | refine BX10_turn_75 ?_ | refine BX10_turn_80 ?_ | refine BX10_turn_107 ?_ | refine BX10_turn_108 ?_ | refine BX10_turn_112 ?_ | refine BX10_turn_138 ?_ | refine BX10_turn_149 ?_ | refine BX10_turn_156 ?_ | refine BX10_turn_157 ?_)
  dsimp only [bX10_turn_0, bX10_turn_41, bX10_turn_44, bX10_turn_70, bX10_turn_71, bX10_turn_75, bX10_turn_80, bX10_turn_107, bX10_turn_108, bX10_turn_112, bX10_turn_138, bX10_turn_149, bX10_turn_156, bX10_turn_157, o_add, o_ald, o_cge, o_cne, o_dup2, o_gf, o_ial, o_ias, o_ic, o_ild, o_mul, o_or, o_rem, o_s2, o_shl, o_sub, o_v1, o_zeq, o_zle, o_zne, o_zret, tk, lget, lput, lkill, lmask, ol, lent, flM_0_0, flM_0_1, flM_0_2, flM_0_3, flM_0_4, flM_0_5, flM_0_6, flM_0_7, flM_0_8, flM_0_9, flM_0_10, flM_0_11, flM_0_12, flM_0_13, flM_0_14, flM_0_15, flM_0_16, flM_0_17, flM_0_18, flM_0_19, flM_0_20, flM_0_21, flM_0_22, flM_0_23, flM_0_24, flM_0_25, flM_0_26, flM_0_27, flM_0_28, flM_0_29, flM_0_30, flM_0_31, flM_0_32, flM_0_33, flM_0_34, flM_0_35, flM_0_36, flM_0_37, flM_0_38, flM_0_39, flM_0_40, flM_0_41, arM_1, arM_2, arM_3, arM_4, arM_5, arM_6, arM_7, arM_8, arM_9, arM_10, arM_11, arM_12, arM_13, arM_14, arM_15, arM_16, arM_17, arM_18, arM_19, arM_20, arM_21, arM_22, arM_23, arM_24, arM_25]
  try simp only [up, upL, Nat.reduceEqDiff, reduceIte, Int.reduceNeg, Int.reduceLE, Int.reduceLT, Int.reduceEq, Int.reduceAdd, Int.reduceSub, Int.reduceMul, ne_eq, not_true_eq_false, not_false_eq_true, true_and, and_true, and_self, false_implies, true_implies, implies_true, forall_const, Nat.reduceAdd, Int.add_zero, Int.zero_add, List.length_nil, List.length_cons]
  trace_state
  sorry
theorem c_bits {l : Launch} {X : Cx} {Q : Qt} {M : Me} {b : Int} : TM l X shM 0 mX10_bits [vI b] M Q := by
  refine EX10_bits rfl ?_
  (first | refine BX10_bits_0 ?_ | refine BX10_bits_4 ?_ | refine BX10_bits_24 ?_)
  dsimp only [bX10_bits_0, bX10_bits_4, bX10_bits_24, o_add, o_and, o_cge, o_ic, o_ild, o_inc, o_iret, o_ist, o_shr, tk, lget, lput, lkill, lmask, ol, lent]
  try simp only [up, upL, Nat.reduceEqDiff, reduceIte, Int.reduceNeg, Int.reduceLE, Int.reduceLT, Int.reduceEq, Int.reduceAdd, Int.reduceSub, Int.reduceMul, ne_eq, not_true_eq_false, not_false_eq_true, true_and, and_true, and_self, false_implies, true_implies, implies_true, forall_const, Nat.reduceAdd, Int.add_zero, Int.zero_add, List.length_nil, List.length_cons]
  trace_state
  (first | refine BX10_bits_0 ?_ | refine BX10_bits_4 ?_ | refine BX10_bits_24 ?_)
  dsimp only [bX10_bits_0, bX10_bits_4, bX10_bits_24, o_add, o_and, o_cge, o_ic, o_ild, o_inc, o_iret, o_ist, o_shr, tk, lget, lput, lkill, lmask, ol]
  try simp only [up, upL, Nat.reduceEqDiff, reduceIte, Int.reduceNeg, Int.reduceLE, Int.reduceLT, Int.reduceEq, Int.reduceAdd, Int.reduceSub, Int.reduceMul, ne_eq, not_true_eq_false, not_false_eq_true, true_and, and_true, and_self, false_implies, true_implies, implies_true, forall_const, Nat.reduceAdd, Int.add_zero, Int.zero_add, List.length_nil, List.length_cons]
  trace_state
  sorry
