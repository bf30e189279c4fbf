/-! what is remembered and undone, images -/
theorem rp_swap {f : Nat → Int → Int} {k k' : Nat} {a b : Int → Int} (h : k ≠ k') : rp (rp f k a) k' b = rp (rp f k' b) k a := by
  funext z j
  unfold rp
  by_cases h1 : z = k'
  · rw [if_pos h1, if_neg (fun e => h (e.symm.trans h1)), if_pos h1]
  · rw [if_neg h1]
    by_cases h2 : z = k
    · rw [if_pos h2, if_pos h2]
    · rw [if_neg h2, if_neg h2, if_neg h1]
theorem sf_self {g : Int → Int} {i : Int} : sf g i (g i) = g := by
  funext j
  unfold sf
  by_cases h : j = i
  · rw [if_pos h, h]
  · rw [if_neg h]
theorem sf_sf {g : Int → Int} {i v w : Int} : sf (sf g i v) i w = sf g i w := by
  funext j
  unfold sf
  by_cases h : j = i
  · rw [if_pos h, if_pos h]
  · rw [if_neg h, if_neg h, if_neg h]
def shk (g : Int → Int) (k j : Int) : Int := if 0 ≤ j ∧ j < k - 32 then g (j + 32) else g j
def putr (p now : Int → Int) (a k j : Int) : Int := if a ≤ j ∧ j < a + k then now (j - a) else p j
theorem putr_0 {p now : Int → Int} {a : Int} : putr p now a 0 = p := by
  funext j
  unfold putr
  rw [if_neg (by omega)]
theorem putr_s {p now : Int → Int} {a k : Int} (h : 0 ≤ k) : sf (putr p now a k) (a + k) (now k) = putr p now a (k + 1) := by
  funext j
  unfold sf putr
  by_cases h1 : j = a + k
  · rw [if_pos h1, if_pos (by omega), show j - a = k by omega]
  · rw [if_neg h1]
    by_cases h2 : a ≤ j ∧ j < a + k
    · rw [if_pos h2, if_pos (by omega)]
    · rw [if_neg h2, if_neg (by omega)]
theorem shk_0 {g : Int → Int} : shk g 32 = g := by
  funext j
  unfold shk
  rw [if_neg (by omega)]
theorem shk_s {g : Int → Int} {k : Int} (h : 32 ≤ k) : sf (shk g k) (k - 32) (g k) = shk g (k + 1) := by
  funext j
  unfold sf shk
  by_cases h1 : j = k - 32
  · rw [if_pos h1, if_pos (by omega), show j + 32 = k by omega]
  · rw [if_neg h1]
    by_cases h2 : 0 ≤ j ∧ j < k - 32
    · rw [if_pos h2, if_pos (by omega)]
    · rw [if_neg h2, if_neg (by omega)]
def remP (f : Nat → Int → Int) : Int → Int := if f 0 28 = 16 then shk (f 15) 512 else f 15
def remU (f : Nat → Int → Int) : Int := if f 0 28 = 16 then 15 else f 0 28
def remM (f : Nat → Int → Int) : Nat → Int → Int := rp (rp f 15 (putr (remP f) (f 7) (32 * remU f) 32)) 0 (sf (f 0) 28 (remU f + 1))
theorem c_remember {l : Launch} {X : Cx} {Q : Qt} {M : Me} (hu : 0 ≤ M.1 0 28 ∧ M.1 0 28 ≤ 16) (hq : Q none (remM M.1, M.2)) : TM l X shM 0 mX10_remember [vR 0] M Q := by
  obtain ⟨f, u⟩ := M
  dsimp only at hu hq
  have hU : 0 ≤ remU f ∧ remU f ≤ 15 := by unfold remU; split <;> omega
  have L2 : ∀ (j : Nat) (k : Int), k + j = 32 → 0 ≤ k → Tf l X shM 0 mX10_remember Q 52 [some (vR 0), some (vI k)] [] (rp (rp f 15 (putr (remP f) (f 7) (32 * remU f) k)) 0 (sf (f 0) 28 (remU f)), u) := by
    intro j
    induction j with
    | zero =>
      intro k e0 e1
      have ek : k = 32 := by omega
      subst ek
      (first | refine BX10_remember_0 ?_ | refine BX10_remember_12 ?_ | refine BX10_remember_40 ?_ | refine BX10_remember_50 ?_ | refine BX10_remember_52 ?_ | refine BX10_remember_84 ?_)
      dsimp only [bX10_remember_0, bX10_remember_12, bX10_remember_40, bX10_remember_50, bX10_remember_52, bX10_remember_84, o_add, o_ald, o_cge, o_cne, o_dup, o_gf, o_ial, o_ias, o_ic, o_ild, o_inc, o_ist, o_mul, o_pf, o_sub, o_vret, tk, lget, lput, lkill, lmask, ol, flM_0_0, flM_0_1, flM_0_2, flM_0_3, flM_0_4, flM_0_5, flM_0_6, flM_0_7, flM_0_8, flM_0_9, flM_0_10, flM_0_11, flM_0_12, flM_0_13, flM_0_14, flM_0_15, flM_0_16, flM_0_17, flM_0_18, flM_0_19, flM_0_20, flM_0_21, flM_0_22, flM_0_23, flM_0_24, flM_0_25, flM_0_26, flM_0_27, flM_0_28, flM_0_29, flM_0_30, flM_0_31, flM_0_32, flM_0_33, flM_0_34, flM_0_35, flM_0_36, flM_0_37, flM_0_38, flM_0_39, flM_0_40, flM_0_41, arM_1, arM_2, arM_3, arM_4, arM_5, arM_6, arM_7, arM_8, arM_9, arM_10, arM_11, arM_12, arM_13, arM_14, arM_15, arM_16, arM_17, arM_18, arM_19, arM_20, arM_21, arM_22, arM_23, arM_24, arM_25]
      try simp only [up, upL, rp, sf, cpy, Nat.reduceEqDiff, reduceIte, Int.reduceNeg, Int.reduceLE, Int.reduceLT, Int.reduceEq, Int.reduceAdd, Int.reduceSub, Int.reduceMul, ne_eq, not_true_eq_false, not_false_eq_true, true_and, and_true, and_self, false_implies, true_implies, implies_true, forall_const, Nat.reduceAdd, Int.add_zero, Int.zero_add, true_or, or_true, false_or, or_false, List.length_nil, List.length_cons]
      (first | refine BX10_remember_0 ?_ | refine BX10_remember_12 ?_ | refine BX10_remember_40 ?_ | refine BX10_remember_50 ?_ | refine BX10_remember_52 ?_ | refine BX10_remember_84 ?_)
      dsimp only [bX10_remember_0, bX10_remember_12, bX10_remember_40, bX10_remember_50, bX10_remember_52, bX10_remember_84, o_add, o_ald, o_cge, o_cne, o_dup, o_gf, o_ial, o_ias, o_ic, o_ild, o_inc, o_ist, o_mul, o_pf, o_sub, o_vret, tk, lget, lput, lkill, lmask, ol, flM_0_0, flM_0_1, flM_0_2, flM_0_3, flM_0_4, flM_0_5, flM_0_6, flM_0_7, flM_0_8, flM_0_9, flM_0_10, flM_0_11, flM_0_12, flM_0_13, flM_0_14, flM_0_15, flM_0_16, flM_0_17, flM_0_18, flM_0_19, flM_0_20, flM_0_21, flM_0_22, flM_0_23, flM_0_24, flM_0_25, flM_0_26, flM_0_27, flM_0_28, flM_0_29, flM_0_30, flM_0_31, flM_0_32, flM_0_33, flM_0_34, flM_0_35, flM_0_36, flM_0_37, flM_0_38, flM_0_39, flM_0_40, flM_0_41, arM_1, arM_2, arM_3, arM_4, arM_5, arM_6, arM_7, arM_8, arM_9, arM_10, arM_11, arM_12, arM_13, arM_14, arM_15, arM_16, arM_17, arM_18, arM_19, arM_20, arM_21, arM_22, arM_23, arM_24, arM_25]
      try simp only [up, upL, rp, sf, cpy, Nat.reduceEqDiff, reduceIte, Int.reduceNeg, Int.reduceLE, Int.reduceLT, Int.reduceEq, Int.reduceAdd, Int.reduceSub, Int.reduceMul, ne_eq, not_true_eq_false, not_false_eq_true, true_and, and_true, and_self, false_implies, true_implies, implies_true, forall_const, Nat.reduceAdd, Int.add_zero, Int.zero_add, true_or, or_true, false_or, or_false, List.length_nil, List.length_cons]
      rw [up_to, rp_rp, rp_k, sf_sf]
      exact hq
    | succ j ih =>
      intro k e0 e1
      (first | refine BX10_remember_0 ?_ | refine BX10_remember_12 ?_ | refine BX10_remember_40 ?_ | refine BX10_remember_50 ?_ | refine BX10_remember_52 ?_ | refine BX10_remember_84 ?_)
      dsimp only [bX10_remember_0, bX10_remember_12, bX10_remember_40, bX10_remember_50, bX10_remember_52, bX10_remember_84, o_add, o_ald, o_cge, o_cne, o_dup, o_gf, o_ial, o_ias, o_ic, o_ild, o_inc, o_ist, o_mul, o_pf, o_sub, o_vret, tk, lget, lput, lkill, lmask, ol, flM_0_0, flM_0_1, flM_0_2, flM_0_3, flM_0_4, flM_0_5, flM_0_6, flM_0_7, flM_0_8, flM_0_9, flM_0_10, flM_0_11, flM_0_12, flM_0_13, flM_0_14, flM_0_15, flM_0_16, flM_0_17, flM_0_18, flM_0_19, flM_0_20, flM_0_21, flM_0_22, flM_0_23, flM_0_24, flM_0_25, flM_0_26, flM_0_27, flM_0_28, flM_0_29, flM_0_30, flM_0_31, flM_0_32, flM_0_33, flM_0_34, flM_0_35, flM_0_36, flM_0_37, flM_0_38, flM_0_39, flM_0_40, flM_0_41, arM_1, arM_2, arM_3, arM_4, arM_5, arM_6, arM_7, arM_8, arM_9, arM_10, arM_11, arM_12, arM_13, arM_14, arM_15, arM_16, arM_17, arM_18, arM_19, arM_20, arM_21, arM_22, arM_23, arM_24, arM_25]
      try simp only [up, upL, rp, sf, cpy, Nat.reduceEqDiff, reduceIte, Int.reduceNeg, Int.reduceLE, Int.reduceLT, Int.reduceEq, Int.reduceAdd, Int.reduceSub, Int.reduceMul, ne_eq, not_true_eq_false, not_false_eq_true, true_and, and_true, and_self, false_implies, true_implies, implies_true, forall_const, Nat.reduceAdd, Int.add_zero, Int.zero_add, true_or, or_true, false_or, or_false, List.length_nil, List.length_cons]
      refine ⟨by omega, fun h => absurd h (by omega), fun h => ⟨by omega, by omega, ?_⟩⟩
      have := ih (k + 1) (by omega) (by omega)
      rw [up_to, rp_swap (by decide), rp_rp, rp_ne (by decide), rp_k, putr_s e1]
      exact this
  have L1 : f 0 28 = 16 → ∀ (j : Nat) (k : Int), k + j = 512 → 32 ≤ k → Tf l X shM 0 mX10_remember Q 12 [some (vR 0), some (vI k)] [] (rp f 15 (shk (f 15) k), u) := by
    intro h16 j
    induction j with
    | zero =>
      intro k e0 e1
      have ek : k = 512 := by omega
      subst ek
      (first | refine BX10_remember_0 ?_ | refine BX10_remember_12 ?_ | refine BX10_remember_40 ?_ | refine BX10_remember_50 ?_ | refine BX10_remember_52 ?_ | refine BX10_remember_84 ?_)
      dsimp only [bX10_remember_0, bX10_remember_12, bX10_remember_40, bX10_remember_50, bX10_remember_52, bX10_remember_84, o_add, o_ald, o_cge, o_cne, o_dup, o_gf, o_ial, o_ias, o_ic, o_ild, o_inc, o_ist, o_mul, o_pf, o_sub, o_vret, tk, lget, lput, lkill, lmask, ol, flM_0_0, flM_0_1, flM_0_2, flM_0_3, flM_0_4, flM_0_5, flM_0_6, flM_0_7, flM_0_8, flM_0_9, flM_0_10, flM_0_11, flM_0_12, flM_0_13, flM_0_14, flM_0_15, flM_0_16, flM_0_17, flM_0_18, flM_0_19, flM_0_20, flM_0_21, flM_0_22, flM_0_23, flM_0_24, flM_0_25, flM_0_26, flM_0_27, flM_0_28, flM_0_29, flM_0_30, flM_0_31, flM_0_32, flM_0_33, flM_0_34, flM_0_35, flM_0_36, flM_0_37, flM_0_38, flM_0_39, flM_0_40, flM_0_41, arM_1, arM_2, arM_3, arM_4, arM_5, arM_6, arM_7, arM_8, arM_9, arM_10, arM_11, arM_12, arM_13, arM_14, arM_15, arM_16, arM_17, arM_18, arM_19, arM_20, arM_21, arM_22, arM_23, arM_24, arM_25]
      try simp only [up, upL, rp, sf, cpy, Nat.reduceEqDiff, reduceIte, Int.reduceNeg, Int.reduceLE, Int.reduceLT, Int.reduceEq, Int.reduceAdd, Int.reduceSub, Int.reduceMul, ne_eq, not_true_eq_false, not_false_eq_true, true_and, and_true, and_self, false_implies, true_implies, implies_true, forall_const, Nat.reduceAdd, Int.add_zero, Int.zero_add, true_or, or_true, false_or, or_false, List.length_nil, List.length_cons]
      (first | refine BX10_remember_0 ?_ | refine BX10_remember_12 ?_ | refine BX10_remember_40 ?_ | refine BX10_remember_50 ?_ | refine BX10_remember_52 ?_ | refine BX10_remember_84 ?_)
      dsimp only [bX10_remember_0, bX10_remember_12, bX10_remember_40, bX10_remember_50, bX10_remember_52, bX10_remember_84, o_add, o_ald, o_cge, o_cne, o_dup, o_gf, o_ial, o_ias, o_ic, o_ild, o_inc, o_ist, o_mul, o_pf, o_sub, o_vret, tk, lget, lput, lkill, lmask, ol, flM_0_0, flM_0_1, flM_0_2, flM_0_3, flM_0_4, flM_0_5, flM_0_6, flM_0_7, flM_0_8, flM_0_9, flM_0_10, flM_0_11, flM_0_12, flM_0_13, flM_0_14, flM_0_15, flM_0_16, flM_0_17, flM_0_18, flM_0_19, flM_0_20, flM_0_21, flM_0_22, flM_0_23, flM_0_24, flM_0_25, flM_0_26, flM_0_27, flM_0_28, flM_0_29, flM_0_30, flM_0_31, flM_0_32, flM_0_33, flM_0_34, flM_0_35, flM_0_36, flM_0_37, flM_0_38, flM_0_39, flM_0_40, flM_0_41, arM_1, arM_2, arM_3, arM_4, arM_5, arM_6, arM_7, arM_8, arM_9, arM_10, arM_11, arM_12, arM_13, arM_14, arM_15, arM_16, arM_17, arM_18, arM_19, arM_20, arM_21, arM_22, arM_23, arM_24, arM_25]
      try simp only [up, upL, rp, sf, cpy, Nat.reduceEqDiff, reduceIte, Int.reduceNeg, Int.reduceLE, Int.reduceLT, Int.reduceEq, Int.reduceAdd, Int.reduceSub, Int.reduceMul, ne_eq, not_true_eq_false, not_false_eq_true, true_and, and_true, and_self, false_implies, true_implies, implies_true, forall_const, Nat.reduceAdd, Int.add_zero, Int.zero_add, true_or, or_true, false_or, or_false, List.length_nil, List.length_cons]
      (first | refine BX10_remember_0 ?_ | refine BX10_remember_12 ?_ | refine BX10_remember_40 ?_ | refine BX10_remember_50 ?_ | refine BX10_remember_52 ?_ | refine BX10_remember_84 ?_)
      dsimp only [bX10_remember_0, bX10_remember_12, bX10_remember_40, bX10_remember_50, bX10_remember_52, bX10_remember_84, o_add, o_ald, o_cge, o_cne, o_dup, o_gf, o_ial, o_ias, o_ic, o_ild, o_inc, o_ist, o_mul, o_pf, o_sub, o_vret, tk, lget, lput, lkill, lmask, ol, flM_0_0, flM_0_1, flM_0_2, flM_0_3, flM_0_4, flM_0_5, flM_0_6, flM_0_7, flM_0_8, flM_0_9, flM_0_10, flM_0_11, flM_0_12, flM_0_13, flM_0_14, flM_0_15, flM_0_16, flM_0_17, flM_0_18, flM_0_19, flM_0_20, flM_0_21, flM_0_22, flM_0_23, flM_0_24, flM_0_25, flM_0_26, flM_0_27, flM_0_28, flM_0_29, flM_0_30, flM_0_31, flM_0_32, flM_0_33, flM_0_34, flM_0_35, flM_0_36, flM_0_37, flM_0_38, flM_0_39, flM_0_40, flM_0_41, arM_1, arM_2, arM_3, arM_4, arM_5, arM_6, arM_7, arM_8, arM_9, arM_10, arM_11, arM_12, arM_13, arM_14, arM_15, arM_16, arM_17, arM_18, arM_19, arM_20, arM_21, arM_22, arM_23, arM_24, arM_25]
      try simp only [up, upL, rp, sf, cpy, Nat.reduceEqDiff, reduceIte, Int.reduceNeg, Int.reduceLE, Int.reduceLT, Int.reduceEq, Int.reduceAdd, Int.reduceSub, Int.reduceMul, ne_eq, not_true_eq_false, not_false_eq_true, true_and, and_true, and_self, false_implies, true_implies, implies_true, forall_const, Nat.reduceAdd, Int.add_zero, Int.zero_add, true_or, or_true, false_or, or_false, List.length_nil, List.length_cons]
      have := L2 32 0 (by omega) (by omega)
      rw [putr_0] at this
      unfold remP remU at this
      rw [if_pos h16, if_pos h16] at this
      rw [up_to, rp_ne (by decide), h16]
      exact this
    | succ j ih =>
      intro k e0 e1
      (first | refine BX10_remember_0 ?_ | refine BX10_remember_12 ?_ | refine BX10_remember_40 ?_ | refine BX10_remember_50 ?_ | refine BX10_remember_52 ?_ | refine BX10_remember_84 ?_)
      dsimp only [bX10_remember_0, bX10_remember_12, bX10_remember_40, bX10_remember_50, bX10_remember_52, bX10_remember_84, o_add, o_ald, o_cge, o_cne, o_dup, o_gf, o_ial, o_ias, o_ic, o_ild, o_inc, o_ist, o_mul, o_pf, o_sub, o_vret, tk, lget, lput, lkill, lmask, ol, flM_0_0, flM_0_1, flM_0_2, flM_0_3, flM_0_4, flM_0_5, flM_0_6, flM_0_7, flM_0_8, flM_0_9, flM_0_10, flM_0_11, flM_0_12, flM_0_13, flM_0_14, flM_0_15, flM_0_16, flM_0_17, flM_0_18, flM_0_19, flM_0_20, flM_0_21, flM_0_22, flM_0_23, flM_0_24, flM_0_25, flM_0_26, flM_0_27, flM_0_28, flM_0_29, flM_0_30, flM_0_31, flM_0_32, flM_0_33, flM_0_34, flM_0_35, flM_0_36, flM_0_37, flM_0_38, flM_0_39, flM_0_40, flM_0_41, arM_1, arM_2, arM_3, arM_4, arM_5, arM_6, arM_7, arM_8, arM_9, arM_10, arM_11, arM_12, arM_13, arM_14, arM_15, arM_16, arM_17, arM_18, arM_19, arM_20, arM_21, arM_22, arM_23, arM_24, arM_25]
      try simp only [up, upL, rp, sf, cpy, Nat.reduceEqDiff, reduceIte, Int.reduceNeg, Int.reduceLE, Int.reduceLT, Int.reduceEq, Int.reduceAdd, Int.reduceSub, Int.reduceMul, ne_eq, not_true_eq_false, not_false_eq_true, true_and, and_true, and_self, false_implies, true_implies, implies_true, forall_const, Nat.reduceAdd, Int.add_zero, Int.zero_add, true_or, or_true, false_or, or_false, List.length_nil, List.length_cons]
      refine ⟨by omega, fun h => absurd h (by omega), fun h => ⟨by omega, by omega, ?_⟩⟩
      have := ih (k + 1) (by omega) (by omega)
      rw [up_to, rp_rp, rp_k, show shk (f 15) k k = f 15 k by unfold shk; rw [if_neg (by omega)], shk_s e1]
      exact this
  refine EX10_remember rfl ?_
  (first | refine BX10_remember_0 ?_ | refine BX10_remember_12 ?_ | refine BX10_remember_40 ?_ | refine BX10_remember_50 ?_ | refine BX10_remember_52 ?_ | refine BX10_remember_84 ?_)
  dsimp only [bX10_remember_0, bX10_remember_12, bX10_remember_40, bX10_remember_50, bX10_remember_52, bX10_remember_84, o_add, o_ald, o_cge, o_cne, o_dup, o_gf, o_ial, o_ias, o_ic, o_ild, o_inc, o_ist, o_mul, o_pf, o_sub, o_vret, tk, lget, lput, lkill, lmask, ol, lent, flM_0_0, flM_0_1, flM_0_2, flM_0_3, flM_0_4, flM_0_5, flM_0_6, flM_0_7, flM_0_8, flM_0_9, flM_0_10, flM_0_11, flM_0_12, flM_0_13, flM_0_14, flM_0_15, flM_0_16, flM_0_17, flM_0_18, flM_0_19, flM_0_20, flM_0_21, flM_0_22, flM_0_23, flM_0_24, flM_0_25, flM_0_26, flM_0_27, flM_0_28, flM_0_29, flM_0_30, flM_0_31, flM_0_32, flM_0_33, flM_0_34, flM_0_35, flM_0_36, flM_0_37, flM_0_38, flM_0_39, flM_0_40, flM_0_41, arM_1, arM_2, arM_3, arM_4, arM_5, arM_6, arM_7, arM_8, arM_9, arM_10, arM_11, arM_12, arM_13, arM_14, arM_15, arM_16, arM_17, arM_18, arM_19, arM_20, arM_21, arM_22, arM_23, arM_24, arM_25]
  try simp only [up, upL, rp, sf, cpy, Nat.reduceEqDiff, reduceIte, Int.reduceNeg, Int.reduceLE, Int.reduceLT, Int.reduceEq, Int.reduceAdd, Int.reduceSub, Int.reduceMul, ne_eq, not_true_eq_false, not_false_eq_true, true_and, and_true, and_self, false_implies, true_implies, implies_true, forall_const, Nat.reduceAdd, Int.add_zero, Int.zero_add, true_or, or_true, false_or, or_false, List.length_nil, List.length_cons]
  refine ⟨by omega, fun h => ?_, fun h => ?_⟩
  · (first | refine BX10_remember_0 ?_ | refine BX10_remember_12 ?_ | refine BX10_remember_40 ?_ | refine BX10_remember_50 ?_ | refine BX10_remember_52 ?_ | refine BX10_remember_84 ?_)
    dsimp only [bX10_remember_0, bX10_remember_12, bX10_remember_40, bX10_remember_50, bX10_remember_52, bX10_remember_84, o_add, o_ald, o_cge, o_cne, o_dup, o_gf, o_ial, o_ias, o_ic, o_ild, o_inc, o_ist, o_mul, o_pf, o_sub, o_vret, tk, lget, lput, lkill, lmask, ol, flM_0_0, flM_0_1, flM_0_2, flM_0_3, flM_0_4, flM_0_5, flM_0_6, flM_0_7, flM_0_8, flM_0_9, flM_0_10, flM_0_11, flM_0_12, flM_0_13, flM_0_14, flM_0_15, flM_0_16, flM_0_17, flM_0_18, flM_0_19, flM_0_20, flM_0_21, flM_0_22, flM_0_23, flM_0_24, flM_0_25, flM_0_26, flM_0_27, flM_0_28, flM_0_29, flM_0_30, flM_0_31, flM_0_32, flM_0_33, flM_0_34, flM_0_35, flM_0_36, flM_0_37, flM_0_38, flM_0_39, flM_0_40, flM_0_41, arM_1, arM_2, arM_3, arM_4, arM_5, arM_6, arM_7, arM_8, arM_9, arM_10, arM_11, arM_12, arM_13, arM_14, arM_15, arM_16, arM_17, arM_18, arM_19, arM_20, arM_21, arM_22, arM_23, arM_24, arM_25]
    try simp only [up, upL, rp, sf, cpy, Nat.reduceEqDiff, reduceIte, Int.reduceNeg, Int.reduceLE, Int.reduceLT, Int.reduceEq, Int.reduceAdd, Int.reduceSub, Int.reduceMul, ne_eq, not_true_eq_false, not_false_eq_true, true_and, and_true, and_self, false_implies, true_implies, implies_true, forall_const, Nat.reduceAdd, Int.add_zero, Int.zero_add, true_or, or_true, false_or, or_false, List.length_nil, List.length_cons]
    have := L2 32 0 (by omega) (by omega)
    rw [putr_0] at this
    unfold remP remU at this
    rw [if_neg h, if_neg h, rp_self, sf_self, rp_self] at this
    exact this
  · have := L1 h 480 32 (by omega) (by omega)
    rw [shk_0, rp_self] at this
    exact this
/-- the class's memory behind remember -/
def remC (C : Nat → Int → Int) : Nat → Int → Int := up (up (cpy C 18 0 20 (C 19 2 * 32) 32) 19 2 ((C 19 2 + 1).tmod 16)) 19 1 (if 16 < C 19 1 + 1 then 16 else C 19 1 + 1)
theorem k_remember {l : Launch} {X : Cx} {Q : Qt} {M : Me} (hu : 0 ≤ M.1 19 1 ∧ M.1 19 1 ≤ 16) (ht : 0 ≤ M.1 19 2 ∧ M.1 19 2 < 16) (hq : Q none (remC M.1, M.2)) : TM l X shC 1 mX3_remember [vR 19, vR 17] M Q := by
  refine EX3_remember rfl ?_
  (first | refine BX3_remember_0 ?_)
  dsimp only [bX3_remember_0, o_acp, o_add, o_ald, o_gf, o_ic, o_min, o_mul, o_pf, o_rem, o_vret, tk, lget, lput, lkill, lmask, ol, lent, flC_0_0, flC_0_1, flC_0_2, flC_0_3, flC_0_4, flC_0_5, flC_0_6, flC_0_7, flC_0_8, flC_0_9, flC_0_10, flC_1_0, flC_1_1, flC_1_2, flC_1_3, flC_1_4, flC_1_5, flC_1_6, flC_1_7, flC_2_0, flC_2_1, flC_2_2, flC_2_3, flC_2_4, flC_2_5, flC_2_6, flC_2_7, flC_2_8, arC_3, arC_4, arC_5, arC_6, arC_7, arC_8, arC_9, flC_10_0, flC_10_1, flC_10_2, flC_10_3, flC_10_4, flC_10_5, flC_10_6, flC_10_7, flC_10_8, arC_11, arC_12, arC_13, arC_14, arC_15, arC_16, flC_17_0, arC_18, flC_19_0, flC_19_1, flC_19_2, arC_20, flC_21_0, flC_21_1, flC_21_2, arC_22, arC_23, flC_24_0, flC_24_1, flC_24_2, arC_25, flC_26_0, flC_26_1, flC_26_2, arC_27, arC_28, flC_29_0, arC_30, flC_31_0, flC_31_1, arC_32, arC_33, arC_34]
  try simp only [up, upL, rp, sf, cpy, Nat.reduceEqDiff, reduceIte, Int.reduceNeg, Int.reduceLE, Int.reduceLT, Int.reduceEq, Int.reduceAdd, Int.reduceSub, Int.reduceMul, ne_eq, not_true_eq_false, not_false_eq_true, true_and, and_true, and_self, false_implies, true_implies, implies_true, forall_const, Nat.reduceAdd, Int.add_zero, Int.zero_add, true_or, or_true, false_or, or_false, List.length_nil, List.length_cons]
  exact ⟨by omega, by omega, by omega, rfl, hq⟩
theorem inv_rem {C f : Nat → Int → Int} (hI : Inv C f) : Inv (remC C) (remM f) := by
  obtain ⟨h1, h2, h3, h4, h5, h6, h7, h8, h9⟩ := id hI
  obtain ⟨a1, a2, a3, a4⟩ := id h8
  have hE := h1.2
  have et : (C 19 2 + 1).tmod 16 = (C 19 2 + 1) % 16 := Int.tmod_eq_emod_of_nonneg (by omega)
  have e1 : remC C 19 1 = (if 16 < f 0 28 + 1 then 16 else f 0 28 + 1) := by rw [← a1]; rfl
  have e2 : remC C 19 2 = (C 19 2 + 1) % 16 := by rw [← et]; rfl
  have e3 : ∀ j, remC C 20 j = if C 19 2 * 32 ≤ j ∧ j < C 19 2 * 32 + 32 then C 18 (0 + (j - C 19 2 * 32)) else C 20 j := fun j => rfl
  have e4 : remM f 0 28 = remU f + 1 := rfl
  have e5 : ∀ j, remM f 15 j = putr (remP f) (f 7) (32 * remU f) 32 j := fun j => rfl
  refine ⟨h1, h2, h3, h4, h5, h6, h7, ⟨?_, ?_, ?_, fun i i0 i1 => ?_⟩, h9⟩
  · rw [e1, e4]; unfold remU; split <;> split <;> omega
  · rw [e4]; unfold remU; split <;> omega
  · rw [e2]; omega
  · rw [e4] at i1
    rw [e2, e4]
    by_cases hi : i = remU f
    · have hpos : ((C 19 2 + 1) % 16 - (remU f + 1) + i) % 16 = C 19 2 := by omega
      rw [hpos]
      have q1 : ∀ k, 0 ≤ k → k < 32 → remC C 20 (32 * C 19 2 + k) = C 18 k := by
        intro k k0 k1
        rw [e3, if_pos (by omega)]
        congr 1
        omega
      have q2 : ∀ k, 0 ≤ k → k < 32 → remM f 15 (32 * i + k) = f 7 k := by
        intro k k0 k1
        rw [e5]
        unfold putr
        rw [if_pos (by omega)]
        congr 1
        omega
      exact ⟨SimN_congr hE h2.1 q1 q2, OkN_congr hE h2.2 q2⟩
    · have hz : ∃ i', (0 ≤ i' ∧ i' < f 0 28) ∧ ((C 19 2 + 1) % 16 - (remU f + 1) + i) % 16 = (C 19 2 - f 0 28 + i') % 16 ∧ (C 19 2 - f 0 28 + i') % 16 ≠ C 19 2 ∧ (∀ k, 0 ≤ k → k < 32 → remM f 15 (32 * i + k) = f 15 (32 * i' + k)) := by
        by_cases h16 : f 0 28 = 16
        · have eU : remU f = 15 := by unfold remU; rw [if_pos h16]
          refine ⟨i + 1, by omega, by omega, by omega, fun k k0 k1 => ?_⟩
          rw [e5]
          unfold putr remP
          rw [if_pos h16, if_neg (by omega)]
          unfold shk
          rw [if_pos (by omega)]
          congr 1
          omega
        · have eU : remU f = f 0 28 := by unfold remU; rw [if_neg h16]
          refine ⟨i, by omega, by omega, by omega, fun k k0 k1 => ?_⟩
          rw [e5]
          unfold putr remP
          rw [if_neg h16, if_neg (by omega)]
      obtain ⟨i', b1, b2, b3, b4⟩ := hz
      have old := a4 i' b1.1 b1.2
      rw [b2]
      refine ⟨SimN_congr hE old.1 (fun k k0 k1 => ?_) b4, OkN_congr hE old.2 b4⟩
      rw [e3, if_neg (by omega)]
theorem inv_now {C f : Nat → Int → Int} {c g : Int → Int} (hI : Inv C f) (hN : SimN f c g) (hO : OkN f g) : Inv (rp C 18 c) (rp f 7 g) := by
  obtain ⟨h1, h2, h3, h4, h5, h6, h7, h8, h9⟩ := hI
  refine ⟨h1, ⟨?_, ?_⟩, h3, h4, h5, h6, h7, h8, h9⟩
  · rw [rp_k, rp_k]; exact hN
  · rw [rp_k]; exact hO
theorem inv_past0 {C f : Nat → Int → Int} (hI : Inv C f) : Inv (up C 19 1 0) (up f 0 28 0) := by
  obtain ⟨h1, h2, h3, h4, h5, h6, h7, h8, h9⟩ := hI
  refine ⟨h1, h2, h3, h4, h5, h6, h7, ⟨by simp [up], by simp [up], by simp [up]; exact h8.2.2.1, fun i i0 i1 => by simp [up] at i1; omega⟩, h9⟩
theorem P_undo {l : Launch} {X Y : Cx} {C f : Nat → Int → Int} (hI : Inv C f) : PP l X Y 2 0 mX9_undo mX10_undo [] C f := by
  obtain ⟨h1, h2, h3, h4, h5, h6, h7, h8, h9⟩ := id hI
  obtain ⟨a1, a2, a3, a4⟩ := id h8
  have hE := h1.2
  by_cases h0 : f 0 28 = 0
  · refine ⟨-1000000003, f, by omega, fun w Q hq => ?_, fun u Q hq => ?_⟩
    · refine EX9_undo rfl ?_
      (first | refine BX9_undo_0 ?_ | refine BX9_undo_13 ?_ | refine BX9_undo_24 ?_)
      dsimp only [bX9_undo_0, bX9_undo_13, bX9_undo_24, o_ald, o_gf, o_ic, o_iret, o_v1, o_zne, tk, lget, lput, lkill, lmask, ol, lent, flC_0_0, flC_0_1, flC_0_2, flC_0_3, flC_0_4, flC_0_5, flC_0_6, flC_0_7, flC_0_8, flC_0_9, flC_0_10, flC_1_0, flC_1_1, flC_1_2, flC_1_3, flC_1_4, flC_1_5, flC_1_6, flC_1_7, flC_2_0, flC_2_1, flC_2_2, flC_2_3, flC_2_4, flC_2_5, flC_2_6, flC_2_7, flC_2_8, arC_3, arC_4, arC_5, arC_6, arC_7, arC_8, arC_9, flC_10_0, flC_10_1, flC_10_2, flC_10_3, flC_10_4, flC_10_5, flC_10_6, flC_10_7, flC_10_8, arC_11, arC_12, arC_13, arC_14, arC_15, arC_16, flC_17_0, arC_18, flC_19_0, flC_19_1, flC_19_2, arC_20, flC_21_0, flC_21_1, flC_21_2, arC_22, arC_23, flC_24_0, flC_24_1, flC_24_2, arC_25, flC_26_0, flC_26_1, flC_26_2, arC_27, arC_28, flC_29_0, arC_30, flC_31_0, flC_31_1, arC_32, arC_33, arC_34]
      try simp only [up, upL, rp, sf, cpy, Nat.reduceEqDiff, reduceIte, Int.reduceNeg, Int.reduceLE, Int.reduceLT, Int.reduceEq, Int.reduceAdd, Int.reduceSub, Int.reduceMul, ne_eq, not_true_eq_false, not_false_eq_true, true_and, and_true, and_self, false_implies, true_implies, implies_true, forall_const, Nat.reduceAdd, Int.add_zero, Int.zero_add, true_or, or_true, false_or, or_false, List.length_nil, List.length_cons]
      rw [a1]
      refine ⟨by omega, fun h => absurd h0 h, fun h => ?_⟩
      exact hq (C, w) hI
    · refine EX10_undo rfl ?_
      (first | refine BX10_undo_0 ?_ | refine BX10_undo_10 ?_ | refine BX10_undo_22 ?_ | refine BX10_undo_54 ?_)
      dsimp only [bX10_undo_0, bX10_undo_10, bX10_undo_22, bX10_undo_54, o_add, o_ald, o_cge, o_dup, o_gf, o_ial, o_ias, o_ic, o_ild, o_inc, o_iret, o_ist, o_mul, o_pf, o_sub, o_zne, tk, lget, lput, lkill, lmask, ol, lent, flM_0_0, flM_0_1, flM_0_2, flM_0_3, flM_0_4, flM_0_5, flM_0_6, flM_0_7, flM_0_8, flM_0_9, flM_0_10, flM_0_11, flM_0_12, flM_0_13, flM_0_14, flM_0_15, flM_0_16, flM_0_17, flM_0_18, flM_0_19, flM_0_20, flM_0_21, flM_0_22, flM_0_23, flM_0_24, flM_0_25, flM_0_26, flM_0_27, flM_0_28, flM_0_29, flM_0_30, flM_0_31, flM_0_32, flM_0_33, flM_0_34, flM_0_35, flM_0_36, flM_0_37, flM_0_38, flM_0_39, flM_0_40, flM_0_41, arM_1, arM_2, arM_3, arM_4, arM_5, arM_6, arM_7, arM_8, arM_9, arM_10, arM_11, arM_12, arM_13, arM_14, arM_15, arM_16, arM_17, arM_18, arM_19, arM_20, arM_21, arM_22, arM_23, arM_24, arM_25]
      try simp only [up, upL, rp, sf, cpy, Nat.reduceEqDiff, reduceIte, Int.reduceNeg, Int.reduceLE, Int.reduceLT, Int.reduceEq, Int.reduceAdd, Int.reduceSub, Int.reduceMul, ne_eq, not_true_eq_false, not_false_eq_true, true_and, and_true, and_self, false_implies, true_implies, implies_true, forall_const, Nat.reduceAdd, Int.add_zero, Int.zero_add, true_or, or_true, false_or, or_false, List.length_nil, List.length_cons]
      refine ⟨by omega, fun h => absurd h0 h, fun h => ?_⟩
      exact hq
  · have old := a4 (f 0 28 - 1) (by omega) (by omega)
    refine ⟨f 0 28 - 1, rp (up f 0 28 (f 0 28 - 1)) 7 (putr (f 7) (fun k => f 15 (32 * (f 0 28 - 1) + k)) 0 32), by omega, fun w Q hq => ?_, fun u Q hq => ?_⟩
    · have et : (C 19 2 + 16 - 1).tmod 16 = (C 19 2 + 15) % 16 := by rw [Int.tmod_eq_emod_of_nonneg (by omega)]; congr 1; omega
      refine EX9_undo rfl ?_
      (first | refine BX9_undo_0 ?_ | refine BX9_undo_13 ?_ | refine BX9_undo_24 ?_)
      dsimp only [bX9_undo_0, bX9_undo_13, bX9_undo_24, o_ald, o_gf, o_ic, o_iret, o_v1, o_zne, tk, lget, lput, lkill, lmask, ol, lent, flC_0_0, flC_0_1, flC_0_2, flC_0_3, flC_0_4, flC_0_5, flC_0_6, flC_0_7, flC_0_8, flC_0_9, flC_0_10, flC_1_0, flC_1_1, flC_1_2, flC_1_3, flC_1_4, flC_1_5, flC_1_6, flC_1_7, flC_2_0, flC_2_1, flC_2_2, flC_2_3, flC_2_4, flC_2_5, flC_2_6, flC_2_7, flC_2_8, arC_3, arC_4, arC_5, arC_6, arC_7, arC_8, arC_9, flC_10_0, flC_10_1, flC_10_2, flC_10_3, flC_10_4, flC_10_5, flC_10_6, flC_10_7, flC_10_8, arC_11, arC_12, arC_13, arC_14, arC_15, arC_16, flC_17_0, arC_18, flC_19_0, flC_19_1, flC_19_2, arC_20, flC_21_0, flC_21_1, flC_21_2, arC_22, arC_23, flC_24_0, flC_24_1, flC_24_2, arC_25, flC_26_0, flC_26_1, flC_26_2, arC_27, arC_28, flC_29_0, arC_30, flC_31_0, flC_31_1, arC_32, arC_33, arC_34]
      try simp only [up, upL, rp, sf, cpy, Nat.reduceEqDiff, reduceIte, Int.reduceNeg, Int.reduceLE, Int.reduceLT, Int.reduceEq, Int.reduceAdd, Int.reduceSub, Int.reduceMul, ne_eq, not_true_eq_false, not_false_eq_true, true_and, and_true, and_self, false_implies, true_implies, implies_true, forall_const, Nat.reduceAdd, Int.add_zero, Int.zero_add, true_or, or_true, false_or, or_false, List.length_nil, List.length_cons]
      rw [a1]
      refine ⟨by omega, fun h => ?_, fun h => absurd h h0⟩
      (first | refine BX9_undo_0 ?_ | refine BX9_undo_13 ?_ | refine BX9_undo_24 ?_)
      dsimp only [bX9_undo_0, bX9_undo_13, bX9_undo_24, o_ald, o_gf, o_ic, o_iret, o_v1, o_zne, tk, lget, lput, lkill, lmask, ol, flC_0_0, flC_0_1, flC_0_2, flC_0_3, flC_0_4, flC_0_5, flC_0_6, flC_0_7, flC_0_8, flC_0_9, flC_0_10, flC_1_0, flC_1_1, flC_1_2, flC_1_3, flC_1_4, flC_1_5, flC_1_6, flC_1_7, flC_2_0, flC_2_1, flC_2_2, flC_2_3, flC_2_4, flC_2_5, flC_2_6, flC_2_7, flC_2_8, arC_3, arC_4, arC_5, arC_6, arC_7, arC_8, arC_9, flC_10_0, flC_10_1, flC_10_2, flC_10_3, flC_10_4, flC_10_5, flC_10_6, flC_10_7, flC_10_8, arC_11, arC_12, arC_13, arC_14, arC_15, arC_16, flC_17_0, arC_18, flC_19_0, flC_19_1, flC_19_2, arC_20, flC_21_0, flC_21_1, flC_21_2, arC_22, arC_23, flC_24_0, flC_24_1, flC_24_2, arC_25, flC_26_0, flC_26_1, flC_26_2, arC_27, arC_28, flC_29_0, arC_30, flC_31_0, flC_31_1, arC_32, arC_33, arC_34]
      try simp only [up, upL, rp, sf, cpy, Nat.reduceEqDiff, reduceIte, Int.reduceNeg, Int.reduceLE, Int.reduceLT, Int.reduceEq, Int.reduceAdd, Int.reduceSub, Int.reduceMul, ne_eq, not_true_eq_false, not_false_eq_true, true_and, and_true, and_self, false_implies, true_implies, implies_true, forall_const, Nat.reduceAdd, Int.add_zero, Int.zero_add, true_or, or_true, false_or, or_false, List.length_nil, List.length_cons]
      refine ⟨rfl, ?_⟩
      refine EX3_recall rfl ?_
      (first | refine BX3_recall_0 ?_ | refine BX3_recall_54 ?_)
      dsimp only [bX3_recall_0, bX3_recall_54, o_acp, o_add, o_ald, o_dup, o_gf, o_ic, o_mul, o_pf, o_rem, o_sub, o_vret, o_zle, tk, lget, lput, lkill, lmask, ol, lent, flC_0_0, flC_0_1, flC_0_2, flC_0_3, flC_0_4, flC_0_5, flC_0_6, flC_0_7, flC_0_8, flC_0_9, flC_0_10, flC_1_0, flC_1_1, flC_1_2, flC_1_3, flC_1_4, flC_1_5, flC_1_6, flC_1_7, flC_2_0, flC_2_1, flC_2_2, flC_2_3, flC_2_4, flC_2_5, flC_2_6, flC_2_7, flC_2_8, arC_3, arC_4, arC_5, arC_6, arC_7, arC_8, arC_9, flC_10_0, flC_10_1, flC_10_2, flC_10_3, flC_10_4, flC_10_5, flC_10_6, flC_10_7, flC_10_8, arC_11, arC_12, arC_13, arC_14, arC_15, arC_16, flC_17_0, arC_18, flC_19_0, flC_19_1, flC_19_2, arC_20, flC_21_0, flC_21_1, flC_21_2, arC_22, arC_23, flC_24_0, flC_24_1, flC_24_2, arC_25, flC_26_0, flC_26_1, flC_26_2, arC_27, arC_28, flC_29_0, arC_30, flC_31_0, flC_31_1, arC_32, arC_33, arC_34]
      try simp only [up, upL, rp, sf, cpy, Nat.reduceEqDiff, reduceIte, Int.reduceNeg, Int.reduceLE, Int.reduceLT, Int.reduceEq, Int.reduceAdd, Int.reduceSub, Int.reduceMul, ne_eq, not_true_eq_false, not_false_eq_true, true_and, and_true, and_self, false_implies, true_implies, implies_true, forall_const, Nat.reduceAdd, Int.add_zero, Int.zero_add, true_or, or_true, false_or, or_false, List.length_nil, List.length_cons]
      rw [a1, et]
      refine ⟨by omega, fun h => absurd h (by omega), fun h => ⟨by omega, by omega, ?_⟩⟩
      (first | refine BX3_recall_0 ?_ | refine BX3_recall_54 ?_)
      dsimp only [bX3_recall_0, bX3_recall_54, o_acp, o_add, o_ald, o_dup, o_gf, o_ic, o_mul, o_pf, o_rem, o_sub, o_vret, o_zle, tk, lget, lput, lkill, lmask, ol, flC_0_0, flC_0_1, flC_0_2, flC_0_3, flC_0_4, flC_0_5, flC_0_6, flC_0_7, flC_0_8, flC_0_9, flC_0_10, flC_1_0, flC_1_1, flC_1_2, flC_1_3, flC_1_4, flC_1_5, flC_1_6, flC_1_7, flC_2_0, flC_2_1, flC_2_2, flC_2_3, flC_2_4, flC_2_5, flC_2_6, flC_2_7, flC_2_8, arC_3, arC_4, arC_5, arC_6, arC_7, arC_8, arC_9, flC_10_0, flC_10_1, flC_10_2, flC_10_3, flC_10_4, flC_10_5, flC_10_6, flC_10_7, flC_10_8, arC_11, arC_12, arC_13, arC_14, arC_15, arC_16, flC_17_0, arC_18, flC_19_0, flC_19_1, flC_19_2, arC_20, flC_21_0, flC_21_1, flC_21_2, arC_22, arC_23, flC_24_0, flC_24_1, flC_24_2, arC_25, flC_26_0, flC_26_1, flC_26_2, arC_27, arC_28, flC_29_0, arC_30, flC_31_0, flC_31_1, arC_32, arC_33, arC_34]
      try simp only [up, upL, rp, sf, cpy, Nat.reduceEqDiff, reduceIte, Int.reduceNeg, Int.reduceLE, Int.reduceLT, Int.reduceEq, Int.reduceAdd, Int.reduceSub, Int.reduceMul, ne_eq, not_true_eq_false, not_false_eq_true, true_and, and_true, and_self, false_implies, true_implies, implies_true, forall_const, Nat.reduceAdd, Int.add_zero, Int.zero_add, true_or, or_true, false_or, or_false, List.length_nil, List.length_cons]
      (first | refine BX9_undo_0 ?_ | refine BX9_undo_13 ?_ | refine BX9_undo_24 ?_)
      dsimp only [bX9_undo_0, bX9_undo_13, bX9_undo_24, o_ald, o_gf, o_ic, o_iret, o_v1, o_zne, tk, lget, lput, lkill, lmask, ol, flC_0_0, flC_0_1, flC_0_2, flC_0_3, flC_0_4, flC_0_5, flC_0_6, flC_0_7, flC_0_8, flC_0_9, flC_0_10, flC_1_0, flC_1_1, flC_1_2, flC_1_3, flC_1_4, flC_1_5, flC_1_6, flC_1_7, flC_2_0, flC_2_1, flC_2_2, flC_2_3, flC_2_4, flC_2_5, flC_2_6, flC_2_7, flC_2_8, arC_3, arC_4, arC_5, arC_6, arC_7, arC_8, arC_9, flC_10_0, flC_10_1, flC_10_2, flC_10_3, flC_10_4, flC_10_5, flC_10_6, flC_10_7, flC_10_8, arC_11, arC_12, arC_13, arC_14, arC_15, arC_16, flC_17_0, arC_18, flC_19_0, flC_19_1, flC_19_2, arC_20, flC_21_0, flC_21_1, flC_21_2, arC_22, arC_23, flC_24_0, flC_24_1, flC_24_2, arC_25, flC_26_0, flC_26_1, flC_26_2, arC_27, arC_28, flC_29_0, arC_30, flC_31_0, flC_31_1, arC_32, arC_33, arC_34]
      try simp only [up, upL, rp, sf, cpy, Nat.reduceEqDiff, reduceIte, Int.reduceNeg, Int.reduceLE, Int.reduceLT, Int.reduceEq, Int.reduceAdd, Int.reduceSub, Int.reduceMul, ne_eq, not_true_eq_false, not_false_eq_true, true_and, and_true, and_self, false_implies, true_implies, implies_true, forall_const, Nat.reduceAdd, Int.add_zero, Int.zero_add, true_or, or_true, false_or, or_false, List.length_nil, List.length_cons]
      refine hq (_, w) ?_
      have hpos : (C 19 2 - f 0 28 + (f 0 28 - 1)) % 16 = (C 19 2 + 15) % 16 := by omega
      rw [hpos] at old
      have q2 : ∀ k, 0 ≤ k → k < 32 → putr (f 7) (fun k => f 15 (32 * (f 0 28 - 1) + k)) 0 32 k = f 15 (32 * (f 0 28 - 1) + k) := by
        intro k k0 k1
        unfold putr
        rw [if_pos (by omega), Int.sub_zero]
      refine ⟨h1, ⟨?_, ?_⟩, h3, h4, h5, h6, h7, ⟨?_, ?_, ?_, fun i i0 i1 => ?_⟩, h9⟩
      · refine SimN_congr hE old.1 (fun k k0 k1 => ?_) (fun k k0 k1 => ?_)
        · simp only [cpy, up]
          simp
          rw [if_pos (by omega)]
          congr 1
          omega
        · rw [rp_k]; exact q2 k k0 k1
      · refine OkN_congr hE old.2 (fun k k0 k1 => ?_)
        rw [rp_k]; exact q2 k k0 k1
      · simp [cpy, up, rp]
      · simp [up, rp]; omega
      · simp [cpy, up]; omega
      · have i1 : i < f 0 28 - 1 := by simpa [up, rp] using i1
        have o2 := a4 i i0 (by omega)
        refine ⟨SimN_congr hE o2.1 (fun k k0 k1 => ?_) (fun k k0 k1 => ?_), OkN_congr hE o2.2 (fun k k0 k1 => ?_)⟩
        · simp only [cpy, up, rp]
          simp
          congr 2
          omega
        · rfl
        · rfl
    · have L : ∀ (j : Nat) (k : Int), k + j = 32 → 0 ≤ k → Tf l Y shM 0 mX10_undo Q 22 [some (vR 0), some (vI k)] [] (rp (up f 0 28 (f 0 28 - 1)) 7 (putr (f 7) (fun k => f 15 (32 * (f 0 28 - 1) + k)) 0 k), u) := by
        intro j
        induction j with
        | zero =>
          intro k e0 e1
          have ek : k = 32 := by omega
          subst ek
          (first | refine BX10_undo_0 ?_ | refine BX10_undo_10 ?_ | refine BX10_undo_22 ?_ | refine BX10_undo_54 ?_)
          dsimp only [bX10_undo_0, bX10_undo_10, bX10_undo_22, bX10_undo_54, o_add, o_ald, o_cge, o_dup, o_gf, o_ial, o_ias, o_ic, o_ild, o_inc, o_iret, o_ist, o_mul, o_pf, o_sub, o_zne, tk, lget, lput, lkill, lmask, ol, flM_0_0, flM_0_1, flM_0_2, flM_0_3, flM_0_4, flM_0_5, flM_0_6, flM_0_7, flM_0_8, flM_0_9, flM_0_10, flM_0_11, flM_0_12, flM_0_13, flM_0_14, flM_0_15, flM_0_16, flM_0_17, flM_0_18, flM_0_19, flM_0_20, flM_0_21, flM_0_22, flM_0_23, flM_0_24, flM_0_25, flM_0_26, flM_0_27, flM_0_28, flM_0_29, flM_0_30, flM_0_31, flM_0_32, flM_0_33, flM_0_34, flM_0_35, flM_0_36, flM_0_37, flM_0_38, flM_0_39, flM_0_40, flM_0_41, arM_1, arM_2, arM_3, arM_4, arM_5, arM_6, arM_7, arM_8, arM_9, arM_10, arM_11, arM_12, arM_13, arM_14, arM_15, arM_16, arM_17, arM_18, arM_19, arM_20, arM_21, arM_22, arM_23, arM_24, arM_25]
          try simp only [up, upL, rp, sf, cpy, Nat.reduceEqDiff, reduceIte, Int.reduceNeg, Int.reduceLE, Int.reduceLT, Int.reduceEq, Int.reduceAdd, Int.reduceSub, Int.reduceMul, ne_eq, not_true_eq_false, not_false_eq_true, true_and, and_true, and_self, false_implies, true_implies, implies_true, forall_const, Nat.reduceAdd, Int.add_zero, Int.zero_add, true_or, or_true, false_or, or_false, List.length_nil, List.length_cons]
          (first | refine BX10_undo_0 ?_ | refine BX10_undo_10 ?_ | refine BX10_undo_22 ?_ | refine BX10_undo_54 ?_)
          dsimp only [bX10_undo_0, bX10_undo_10, bX10_undo_22, bX10_undo_54, o_add, o_ald, o_cge, o_dup, o_gf, o_ial, o_ias, o_ic, o_ild, o_inc, o_iret, o_ist, o_mul, o_pf, o_sub, o_zne, tk, lget, lput, lkill, lmask, ol, flM_0_0, flM_0_1, flM_0_2, flM_0_3, flM_0_4, flM_0_5, flM_0_6, flM_0_7, flM_0_8, flM_0_9, flM_0_10, flM_0_11, flM_0_12, flM_0_13, flM_0_14, flM_0_15, flM_0_16, flM_0_17, flM_0_18, flM_0_19, flM_0_20, flM_0_21, flM_0_22, flM_0_23, flM_0_24, flM_0_25, flM_0_26, flM_0_27, flM_0_28, flM_0_29, flM_0_30, flM_0_31, flM_0_32, flM_0_33, flM_0_34, flM_0_35, flM_0_36, flM_0_37, flM_0_38, flM_0_39, flM_0_40, flM_0_41, arM_1, arM_2, arM_3, arM_4, arM_5, arM_6, arM_7, arM_8, arM_9, arM_10, arM_11, arM_12, arM_13, arM_14, arM_15, arM_16, arM_17, arM_18, arM_19, arM_20, arM_21, arM_22, arM_23, arM_24, arM_25]
          try simp only [up, upL, rp, sf, cpy, Nat.reduceEqDiff, reduceIte, Int.reduceNeg, Int.reduceLE, Int.reduceLT, Int.reduceEq, Int.reduceAdd, Int.reduceSub, Int.reduceMul, ne_eq, not_true_eq_false, not_false_eq_true, true_and, and_true, and_self, false_implies, true_implies, implies_true, forall_const, Nat.reduceAdd, Int.add_zero, Int.zero_add, true_or, or_true, false_or, or_false, List.length_nil, List.length_cons]
          exact hq
        | succ j ih =>
          intro k e0 e1
          (first | refine BX10_undo_0 ?_ | refine BX10_undo_10 ?_ | refine BX10_undo_22 ?_ | refine BX10_undo_54 ?_)
          dsimp only [bX10_undo_0, bX10_undo_10, bX10_undo_22, bX10_undo_54, o_add, o_ald, o_cge, o_dup, o_gf, o_ial, o_ias, o_ic, o_ild, o_inc, o_iret, o_ist, o_mul, o_pf, o_sub, o_zne, tk, lget, lput, lkill, lmask, ol, flM_0_0, flM_0_1, flM_0_2, flM_0_3, flM_0_4, flM_0_5, flM_0_6, flM_0_7, flM_0_8, flM_0_9, flM_0_10, flM_0_11, flM_0_12, flM_0_13, flM_0_14, flM_0_15, flM_0_16, flM_0_17, flM_0_18, flM_0_19, flM_0_20, flM_0_21, flM_0_22, flM_0_23, flM_0_24, flM_0_25, flM_0_26, flM_0_27, flM_0_28, flM_0_29, flM_0_30, flM_0_31, flM_0_32, flM_0_33, flM_0_34, flM_0_35, flM_0_36, flM_0_37, flM_0_38, flM_0_39, flM_0_40, flM_0_41, arM_1, arM_2, arM_3, arM_4, arM_5, arM_6, arM_7, arM_8, arM_9, arM_10, arM_11, arM_12, arM_13, arM_14, arM_15, arM_16, arM_17, arM_18, arM_19, arM_20, arM_21, arM_22, arM_23, arM_24, arM_25]
          try simp only [up, upL, rp, sf, cpy, Nat.reduceEqDiff, reduceIte, Int.reduceNeg, Int.reduceLE, Int.reduceLT, Int.reduceEq, Int.reduceAdd, Int.reduceSub, Int.reduceMul, ne_eq, not_true_eq_false, not_false_eq_true, true_and, and_true, and_self, false_implies, true_implies, implies_true, forall_const, Nat.reduceAdd, Int.add_zero, Int.zero_add, true_or, or_true, false_or, or_false, List.length_nil, List.length_cons]
          refine ⟨by omega, fun h => absurd h (by omega), fun h => ⟨by omega, by omega, ?_⟩⟩
          have := ih (k + 1) (by omega) (by omega)
          have e := putr_s (p := f 7) (now := fun k => f 15 (32 * (f 0 28 - 1) + k)) (a := 0) e1
          rw [Int.zero_add] at e
          rw [up_to, rp_rp, rp_k, e]
          exact this
      refine EX10_undo rfl ?_
      (first | refine BX10_undo_0 ?_ | refine BX10_undo_10 ?_ | refine BX10_undo_22 ?_ | refine BX10_undo_54 ?_)
      dsimp only [bX10_undo_0, bX10_undo_10, bX10_undo_22, bX10_undo_54, o_add, o_ald, o_cge, o_dup, o_gf, o_ial, o_ias, o_ic, o_ild, o_inc, o_iret, o_ist, o_mul, o_pf, o_sub, o_zne, tk, lget, lput, lkill, lmask, ol, lent, flM_0_0, flM_0_1, flM_0_2, flM_0_3, flM_0_4, flM_0_5, flM_0_6, flM_0_7, flM_0_8, flM_0_9, flM_0_10, flM_0_11, flM_0_12, flM_0_13, flM_0_14, flM_0_15, flM_0_16, flM_0_17, flM_0_18, flM_0_19, flM_0_20, flM_0_21, flM_0_22, flM_0_23, flM_0_24, flM_0_25, flM_0_26, flM_0_27, flM_0_28, flM_0_29, flM_0_30, flM_0_31, flM_0_32, flM_0_33, flM_0_34, flM_0_35, flM_0_36, flM_0_37, flM_0_38, flM_0_39, flM_0_40, flM_0_41, arM_1, arM_2, arM_3, arM_4, arM_5, arM_6, arM_7, arM_8, arM_9, arM_10, arM_11, arM_12, arM_13, arM_14, arM_15, arM_16, arM_17, arM_18, arM_19, arM_20, arM_21, arM_22, arM_23, arM_24, arM_25]
      try simp only [up, upL, rp, sf, cpy, Nat.reduceEqDiff, reduceIte, Int.reduceNeg, Int.reduceLE, Int.reduceLT, Int.reduceEq, Int.reduceAdd, Int.reduceSub, Int.reduceMul, ne_eq, not_true_eq_false, not_false_eq_true, true_and, and_true, and_self, false_implies, true_implies, implies_true, forall_const, Nat.reduceAdd, Int.add_zero, Int.zero_add, true_or, or_true, false_or, or_false, List.length_nil, List.length_cons]
      refine ⟨by omega, fun h => ?_, fun h => absurd h h0⟩
      (first | refine BX10_undo_0 ?_ | refine BX10_undo_10 ?_ | refine BX10_undo_22 ?_ | refine BX10_undo_54 ?_)
      dsimp only [bX10_undo_0, bX10_undo_10, bX10_undo_22, bX10_undo_54, o_add, o_ald, o_cge, o_dup, o_gf, o_ial, o_ias, o_ic, o_ild, o_inc, o_iret, o_ist, o_mul, o_pf, o_sub, o_zne, tk, lget, lput, lkill, lmask, ol, flM_0_0, flM_0_1, flM_0_2, flM_0_3, flM_0_4, flM_0_5, flM_0_6, flM_0_7, flM_0_8, flM_0_9, flM_0_10, flM_0_11, flM_0_12, flM_0_13, flM_0_14, flM_0_15, flM_0_16, flM_0_17, flM_0_18, flM_0_19, flM_0_20, flM_0_21, flM_0_22, flM_0_23, flM_0_24, flM_0_25, flM_0_26, flM_0_27, flM_0_28, flM_0_29, flM_0_30, flM_0_31, flM_0_32, flM_0_33, flM_0_34, flM_0_35, flM_0_36, flM_0_37, flM_0_38, flM_0_39, flM_0_40, flM_0_41, arM_1, arM_2, arM_3, arM_4, arM_5, arM_6, arM_7, arM_8, arM_9, arM_10, arM_11, arM_12, arM_13, arM_14, arM_15, arM_16, arM_17, arM_18, arM_19, arM_20, arM_21, arM_22, arM_23, arM_24, arM_25]
      try simp only [up, upL, rp, sf, cpy, Nat.reduceEqDiff, reduceIte, Int.reduceNeg, Int.reduceLE, Int.reduceLT, Int.reduceEq, Int.reduceAdd, Int.reduceSub, Int.reduceMul, ne_eq, not_true_eq_false, not_false_eq_true, true_and, and_true, and_self, false_implies, true_implies, implies_true, forall_const, Nat.reduceAdd, Int.add_zero, Int.zero_add, true_or, or_true, false_or, or_false, List.length_nil, List.length_cons]
      have := L 32 0 (by omega) (by omega)
      rw [putr_0, show rp (up f 0 28 (f 0 28 - 1)) 7 (f 7) = up f 0 28 (f 0 28 - 1) from rp_self (f := up f 0 28 (f 0 28 - 1)) (k := 7)] at this
      exact this
