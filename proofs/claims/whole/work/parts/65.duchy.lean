/-! the pair duchy -/
def PQ (l : Launch) (X Y : Cx) (nc nm : Nat) (mc mm : Mt) (av : List Vl) (C f : Nat → Int → Int) : Prop := ∃ (r : Int) (R S : (Nat → Int → Int) → Prop), (-2147483648 ≤ r ∧ r ≤ 2147483647) ∧ (∀ (w : Int → Int) (Q : Qt), (∀ M' : Me, R M'.1 → Q (some (vI r)) M') → TM l X shC nc mc (vR 0 :: av) (C, w) Q) ∧ (∀ (u : Int → Int) (Q : Qt), (∀ M' : Me, S M'.1 → Q (some (vI r)) M') → TM l Y shM nm mm (vR 0 :: av) (f, u) Q) ∧ (∀ C' f', R C' → S f' → Inv C' f')
theorem PP.pq {l : Launch} {X Y : Cx} {nc nm : Nat} {mc mm : Mt} {av : List Vl} {C f : Nat → Int → Int} (h : PP l X Y nc nm mc mm av C f) : PQ l X Y nc nm mc mm av C f := by
  obtain ⟨r, f', hr, hc, hm⟩ := h
  exact ⟨r, fun C' => Inv C' f', fun g => g = f', hr, hc, fun u Q hq => hm u Q (hq (f', u) rfl), fun C' g hC hg => by rw [hg]; exact hC⟩
theorem k_clear {l : Launch} {X : Cx} {Q : Qt} {C : Nat → Int → Int} {w : Int → Int} (hq : ∀ c : Int → Int, (∀ i, 0 ≤ i → i < 32 → c i = if 21 ≤ i ∧ i < 27 then -1 else 0) → Q none (rp C 18 c, w)) : TM l X shC 0 mX7_clear [vR 17] (C, w) Q := by
  have L2 : ∀ (j : Nat) (r : Int) (g : Int → Int), r + j = 6 → 0 ≤ r → (∀ i, 0 ≤ i → i < 32 → g i = if 21 ≤ i ∧ i < 21 + r then -1 else 0) → Tf l X shC 0 mX7_clear Q 23 [some (vR 17), some (vI r)] [] (rp C 18 g, w) := by
    intro j
    induction j with
    | zero =>
      intro r g e0 e1 hg
      (first | refine BX7_clear_0 ?_ | refine BX7_clear_2 ?_ | refine BX7_clear_21 ?_ | refine BX7_clear_23 ?_ | refine BX7_clear_45 ?_)
      dsimp only [bX7_clear_0, bX7_clear_2, bX7_clear_21, bX7_clear_23, bX7_clear_45, o_add, o_ald, o_cge, o_gf, o_ias, o_ic, o_ild, o_inc, o_ist, o_vret, tk, lget, lput, lkill, lmask, ol, flC_0_0, flC_0_1, flC_0_2, flC_0_3, flC_0_4, flC_0_5, flC_0_6, flC_0_7, flC_0_8, flC_0_9, flC_0_10, flC_1_0, flC_1_1, flC_1_2, flC_1_3, flC_1_4, flC_1_5, flC_1_6, flC_1_7, flC_2_0, flC_2_1, flC_2_2, flC_2_3, flC_2_4, flC_2_5, flC_2_6, flC_2_7, flC_2_8, arC_3, arC_4, arC_5, arC_6, arC_7, arC_8, arC_9, flC_10_0, flC_10_1, flC_10_2, flC_10_3, flC_10_4, flC_10_5, flC_10_6, flC_10_7, flC_10_8, arC_11, arC_12, arC_13, arC_14, arC_15, arC_16, flC_17_0, arC_18, flC_19_0, flC_19_1, flC_19_2, arC_20, flC_21_0, flC_21_1, flC_21_2, arC_22, arC_23, flC_24_0, flC_24_1, flC_24_2, arC_25, flC_26_0, flC_26_1, flC_26_2, arC_27, arC_28, flC_29_0, arC_30, flC_31_0, flC_31_1, arC_32, arC_33, arC_34]
      try simp only [up, upL, rp, sf, cpy, Nat.reduceEqDiff, reduceIte, Int.reduceNeg, Int.reduceLE, Int.reduceLT, Int.reduceEq, Int.reduceAdd, Int.reduceSub, Int.reduceMul, ne_eq, not_true_eq_false, not_false_eq_true, true_and, and_true, and_self, false_implies, true_implies, implies_true, forall_const, Nat.reduceAdd, Int.add_zero, Int.zero_add, true_or, or_true, false_or, or_false, List.length_nil, List.length_cons]
      refine ⟨by omega, fun h => ?_, fun h => absurd h (by omega)⟩
      (first | refine BX7_clear_0 ?_ | refine BX7_clear_2 ?_ | refine BX7_clear_21 ?_ | refine BX7_clear_23 ?_ | refine BX7_clear_45 ?_)
      dsimp only [bX7_clear_0, bX7_clear_2, bX7_clear_21, bX7_clear_23, bX7_clear_45, o_add, o_ald, o_cge, o_gf, o_ias, o_ic, o_ild, o_inc, o_ist, o_vret, tk, lget, lput, lkill, lmask, ol, flC_0_0, flC_0_1, flC_0_2, flC_0_3, flC_0_4, flC_0_5, flC_0_6, flC_0_7, flC_0_8, flC_0_9, flC_0_10, flC_1_0, flC_1_1, flC_1_2, flC_1_3, flC_1_4, flC_1_5, flC_1_6, flC_1_7, flC_2_0, flC_2_1, flC_2_2, flC_2_3, flC_2_4, flC_2_5, flC_2_6, flC_2_7, flC_2_8, arC_3, arC_4, arC_5, arC_6, arC_7, arC_8, arC_9, flC_10_0, flC_10_1, flC_10_2, flC_10_3, flC_10_4, flC_10_5, flC_10_6, flC_10_7, flC_10_8, arC_11, arC_12, arC_13, arC_14, arC_15, arC_16, flC_17_0, arC_18, flC_19_0, flC_19_1, flC_19_2, arC_20, flC_21_0, flC_21_1, flC_21_2, arC_22, arC_23, flC_24_0, flC_24_1, flC_24_2, arC_25, flC_26_0, flC_26_1, flC_26_2, arC_27, arC_28, flC_29_0, arC_30, flC_31_0, flC_31_1, arC_32, arC_33, arC_34]
      try simp only [up, upL, rp, sf, cpy, Nat.reduceEqDiff, reduceIte, Int.reduceNeg, Int.reduceLE, Int.reduceLT, Int.reduceEq, Int.reduceAdd, Int.reduceSub, Int.reduceMul, ne_eq, not_true_eq_false, not_false_eq_true, true_and, and_true, and_self, false_implies, true_implies, implies_true, forall_const, Nat.reduceAdd, Int.add_zero, Int.zero_add, true_or, or_true, false_or, or_false, List.length_nil, List.length_cons]
      refine hq g (fun i i0 i1 => ?_)
      rw [hg i i0 i1, show (21 : Int) + r = 27 by omega]
    | succ j ih =>
      intro r g e0 e1 hg
      (first | refine BX7_clear_0 ?_ | refine BX7_clear_2 ?_ | refine BX7_clear_21 ?_ | refine BX7_clear_23 ?_ | refine BX7_clear_45 ?_)
      dsimp only [bX7_clear_0, bX7_clear_2, bX7_clear_21, bX7_clear_23, bX7_clear_45, o_add, o_ald, o_cge, o_gf, o_ias, o_ic, o_ild, o_inc, o_ist, o_vret, tk, lget, lput, lkill, lmask, ol, flC_0_0, flC_0_1, flC_0_2, flC_0_3, flC_0_4, flC_0_5, flC_0_6, flC_0_7, flC_0_8, flC_0_9, flC_0_10, flC_1_0, flC_1_1, flC_1_2, flC_1_3, flC_1_4, flC_1_5, flC_1_6, flC_1_7, flC_2_0, flC_2_1, flC_2_2, flC_2_3, flC_2_4, flC_2_5, flC_2_6, flC_2_7, flC_2_8, arC_3, arC_4, arC_5, arC_6, arC_7, arC_8, arC_9, flC_10_0, flC_10_1, flC_10_2, flC_10_3, flC_10_4, flC_10_5, flC_10_6, flC_10_7, flC_10_8, arC_11, arC_12, arC_13, arC_14, arC_15, arC_16, flC_17_0, arC_18, flC_19_0, flC_19_1, flC_19_2, arC_20, flC_21_0, flC_21_1, flC_21_2, arC_22, arC_23, flC_24_0, flC_24_1, flC_24_2, arC_25, flC_26_0, flC_26_1, flC_26_2, arC_27, arC_28, flC_29_0, arC_30, flC_31_0, flC_31_1, arC_32, arC_33, arC_34]
      try simp only [up, upL, rp, sf, cpy, Nat.reduceEqDiff, reduceIte, Int.reduceNeg, Int.reduceLE, Int.reduceLT, Int.reduceEq, Int.reduceAdd, Int.reduceSub, Int.reduceMul, ne_eq, not_true_eq_false, not_false_eq_true, true_and, and_true, and_self, false_implies, true_implies, implies_true, forall_const, Nat.reduceAdd, Int.add_zero, Int.zero_add, true_or, or_true, false_or, or_false, List.length_nil, List.length_cons]
      refine ⟨by omega, fun h => absurd h (by omega), fun h => ⟨by omega, ?_⟩⟩
      rw [up_to, rp_rp, rp_k]
      refine ih (r + 1) _ (by omega) (by omega) (fun i i0 i1 => ?_)
      show (if i = 21 + r then (-1 : Int) else g i) = _
      by_cases hi : i = 21 + r
      · rw [if_pos hi, if_pos (by omega)]
      · rw [if_neg hi, hg i i0 i1]
        by_cases h2 : 21 ≤ i ∧ i < 21 + r
        · rw [if_pos h2, if_pos (by omega)]
        · rw [if_neg h2, if_neg (by omega)]
  have L1 : ∀ (j : Nat) (k : Int) (g : Int → Int), k + j = 32 → 0 ≤ k → (∀ i, 0 ≤ i → i < k → g i = 0) → Tf l X shC 0 mX7_clear Q 2 [some (vR 17), some (vI k)] [] (rp C 18 g, w) := by
    intro j
    induction j with
    | zero =>
      intro k g e0 e1 hg
      (first | refine BX7_clear_0 ?_ | refine BX7_clear_2 ?_ | refine BX7_clear_21 ?_ | refine BX7_clear_23 ?_ | refine BX7_clear_45 ?_)
      dsimp only [bX7_clear_0, bX7_clear_2, bX7_clear_21, bX7_clear_23, bX7_clear_45, o_add, o_ald, o_cge, o_gf, o_ias, o_ic, o_ild, o_inc, o_ist, o_vret, tk, lget, lput, lkill, lmask, ol, flC_0_0, flC_0_1, flC_0_2, flC_0_3, flC_0_4, flC_0_5, flC_0_6, flC_0_7, flC_0_8, flC_0_9, flC_0_10, flC_1_0, flC_1_1, flC_1_2, flC_1_3, flC_1_4, flC_1_5, flC_1_6, flC_1_7, flC_2_0, flC_2_1, flC_2_2, flC_2_3, flC_2_4, flC_2_5, flC_2_6, flC_2_7, flC_2_8, arC_3, arC_4, arC_5, arC_6, arC_7, arC_8, arC_9, flC_10_0, flC_10_1, flC_10_2, flC_10_3, flC_10_4, flC_10_5, flC_10_6, flC_10_7, flC_10_8, arC_11, arC_12, arC_13, arC_14, arC_15, arC_16, flC_17_0, arC_18, flC_19_0, flC_19_1, flC_19_2, arC_20, flC_21_0, flC_21_1, flC_21_2, arC_22, arC_23, flC_24_0, flC_24_1, flC_24_2, arC_25, flC_26_0, flC_26_1, flC_26_2, arC_27, arC_28, flC_29_0, arC_30, flC_31_0, flC_31_1, arC_32, arC_33, arC_34]
      try simp only [up, upL, rp, sf, cpy, Nat.reduceEqDiff, reduceIte, Int.reduceNeg, Int.reduceLE, Int.reduceLT, Int.reduceEq, Int.reduceAdd, Int.reduceSub, Int.reduceMul, ne_eq, not_true_eq_false, not_false_eq_true, true_and, and_true, and_self, false_implies, true_implies, implies_true, forall_const, Nat.reduceAdd, Int.add_zero, Int.zero_add, true_or, or_true, false_or, or_false, List.length_nil, List.length_cons]
      refine ⟨by omega, fun h => ?_, fun h => absurd h (by omega)⟩
      (first | refine BX7_clear_0 ?_ | refine BX7_clear_2 ?_ | refine BX7_clear_21 ?_ | refine BX7_clear_23 ?_ | refine BX7_clear_45 ?_)
      dsimp only [bX7_clear_0, bX7_clear_2, bX7_clear_21, bX7_clear_23, bX7_clear_45, o_add, o_ald, o_cge, o_gf, o_ias, o_ic, o_ild, o_inc, o_ist, o_vret, tk, lget, lput, lkill, lmask, ol, flC_0_0, flC_0_1, flC_0_2, flC_0_3, flC_0_4, flC_0_5, flC_0_6, flC_0_7, flC_0_8, flC_0_9, flC_0_10, flC_1_0, flC_1_1, flC_1_2, flC_1_3, flC_1_4, flC_1_5, flC_1_6, flC_1_7, flC_2_0, flC_2_1, flC_2_2, flC_2_3, flC_2_4, flC_2_5, flC_2_6, flC_2_7, flC_2_8, arC_3, arC_4, arC_5, arC_6, arC_7, arC_8, arC_9, flC_10_0, flC_10_1, flC_10_2, flC_10_3, flC_10_4, flC_10_5, flC_10_6, flC_10_7, flC_10_8, arC_11, arC_12, arC_13, arC_14, arC_15, arC_16, flC_17_0, arC_18, flC_19_0, flC_19_1, flC_19_2, arC_20, flC_21_0, flC_21_1, flC_21_2, arC_22, arC_23, flC_24_0, flC_24_1, flC_24_2, arC_25, flC_26_0, flC_26_1, flC_26_2, arC_27, arC_28, flC_29_0, arC_30, flC_31_0, flC_31_1, arC_32, arC_33, arC_34]
      try simp only [up, upL, rp, sf, cpy, Nat.reduceEqDiff, reduceIte, Int.reduceNeg, Int.reduceLE, Int.reduceLT, Int.reduceEq, Int.reduceAdd, Int.reduceSub, Int.reduceMul, ne_eq, not_true_eq_false, not_false_eq_true, true_and, and_true, and_self, false_implies, true_implies, implies_true, forall_const, Nat.reduceAdd, Int.add_zero, Int.zero_add, true_or, or_true, false_or, or_false, List.length_nil, List.length_cons]
      refine L2 6 0 g (by omega) (by omega) (fun i i0 i1 => ?_)
      rw [if_neg (by omega)]
      exact hg i i0 (by omega)
    | succ j ih =>
      intro k g e0 e1 hg
      (first | refine BX7_clear_0 ?_ | refine BX7_clear_2 ?_ | refine BX7_clear_21 ?_ | refine BX7_clear_23 ?_ | refine BX7_clear_45 ?_)
      dsimp only [bX7_clear_0, bX7_clear_2, bX7_clear_21, bX7_clear_23, bX7_clear_45, o_add, o_ald, o_cge, o_gf, o_ias, o_ic, o_ild, o_inc, o_ist, o_vret, tk, lget, lput, lkill, lmask, ol, flC_0_0, flC_0_1, flC_0_2, flC_0_3, flC_0_4, flC_0_5, flC_0_6, flC_0_7, flC_0_8, flC_0_9, flC_0_10, flC_1_0, flC_1_1, flC_1_2, flC_1_3, flC_1_4, flC_1_5, flC_1_6, flC_1_7, flC_2_0, flC_2_1, flC_2_2, flC_2_3, flC_2_4, flC_2_5, flC_2_6, flC_2_7, flC_2_8, arC_3, arC_4, arC_5, arC_6, arC_7, arC_8, arC_9, flC_10_0, flC_10_1, flC_10_2, flC_10_3, flC_10_4, flC_10_5, flC_10_6, flC_10_7, flC_10_8, arC_11, arC_12, arC_13, arC_14, arC_15, arC_16, flC_17_0, arC_18, flC_19_0, flC_19_1, flC_19_2, arC_20, flC_21_0, flC_21_1, flC_21_2, arC_22, arC_23, flC_24_0, flC_24_1, flC_24_2, arC_25, flC_26_0, flC_26_1, flC_26_2, arC_27, arC_28, flC_29_0, arC_30, flC_31_0, flC_31_1, arC_32, arC_33, arC_34]
      try simp only [up, upL, rp, sf, cpy, Nat.reduceEqDiff, reduceIte, Int.reduceNeg, Int.reduceLE, Int.reduceLT, Int.reduceEq, Int.reduceAdd, Int.reduceSub, Int.reduceMul, ne_eq, not_true_eq_false, not_false_eq_true, true_and, and_true, and_self, false_implies, true_implies, implies_true, forall_const, Nat.reduceAdd, Int.add_zero, Int.zero_add, true_or, or_true, false_or, or_false, List.length_nil, List.length_cons]
      refine ⟨by omega, fun h => absurd h (by omega), fun h => ⟨by omega, ?_⟩⟩
      rw [up_to, rp_rp, rp_k]
      refine ih (k + 1) _ (by omega) (by omega) (fun i i0 i1 => ?_)
      show (if i = k then (0 : Int) else g i) = _
      by_cases hi : i = k
      · rw [if_pos hi]
      · rw [if_neg hi]; exact hg i i0 (by omega)
  refine EX7_clear rfl ?_
  (first | refine BX7_clear_0 ?_ | refine BX7_clear_2 ?_ | refine BX7_clear_21 ?_ | refine BX7_clear_23 ?_ | refine BX7_clear_45 ?_)
  dsimp only [bX7_clear_0, bX7_clear_2, bX7_clear_21, bX7_clear_23, bX7_clear_45, o_add, o_ald, o_cge, o_gf, o_ias, o_ic, o_ild, o_inc, o_ist, o_vret, tk, lget, lput, lkill, lmask, ol, lent, flC_0_0, flC_0_1, flC_0_2, flC_0_3, flC_0_4, flC_0_5, flC_0_6, flC_0_7, flC_0_8, flC_0_9, flC_0_10, flC_1_0, flC_1_1, flC_1_2, flC_1_3, flC_1_4, flC_1_5, flC_1_6, flC_1_7, flC_2_0, flC_2_1, flC_2_2, flC_2_3, flC_2_4, flC_2_5, flC_2_6, flC_2_7, flC_2_8, arC_3, arC_4, arC_5, arC_6, arC_7, arC_8, arC_9, flC_10_0, flC_10_1, flC_10_2, flC_10_3, flC_10_4, flC_10_5, flC_10_6, flC_10_7, flC_10_8, arC_11, arC_12, arC_13, arC_14, arC_15, arC_16, flC_17_0, arC_18, flC_19_0, flC_19_1, flC_19_2, arC_20, flC_21_0, flC_21_1, flC_21_2, arC_22, arC_23, flC_24_0, flC_24_1, flC_24_2, arC_25, flC_26_0, flC_26_1, flC_26_2, arC_27, arC_28, flC_29_0, arC_30, flC_31_0, flC_31_1, arC_32, arC_33, arC_34]
  try simp only [up, upL, rp, sf, cpy, Nat.reduceEqDiff, reduceIte, Int.reduceNeg, Int.reduceLE, Int.reduceLT, Int.reduceEq, Int.reduceAdd, Int.reduceSub, Int.reduceMul, ne_eq, not_true_eq_false, not_false_eq_true, true_and, and_true, and_self, false_implies, true_implies, implies_true, forall_const, Nat.reduceAdd, Int.add_zero, Int.zero_add, true_or, or_true, false_or, or_false, List.length_nil, List.length_cons]
  have := L1 32 0 (C 18) (by omega) (by omega) (fun i i0 i1 => by omega)
  rw [rp_self] at this
  exact this
theorem cpy_in {f : Nat → Int → Int} {a b : Nat} {n i : Int} (h : 0 ≤ i ∧ i < n) : cpy f a 0 b 0 n b i = f a i := by
  unfold cpy
  rw [if_pos rfl, if_pos (by omega), show (0 : Int) + (i - 0) = i by omega]
theorem cpy_ne {f : Nat → Int → Int} {a b k : Nat} {s d n : Int} (h : k ≠ b) : cpy f a s b d n k = f k := by
  funext i
  unfold cpy
  rw [if_neg h]
theorem k_take {l : Launch} {X : Cx} {Q : Qt} {C D : Nat → Int → Int} {w : Int → Int} (hD : DC C D) (hO : OkD D) (hq : ∀ C', SimE C' D → (∀ k, ¬ (10 ≤ k ∧ k ≤ 16) → C' k = C k) → Q none (C', w)) : TM l X shC 1 mX6_take [vR 10, vR 2] (C, w) Q := by
  have hB := hO.1.2.1
  have hR := hO.1.2.2.1
  obtain ⟨d1, d2, d3, d4, d5, d6⟩ := hD
  refine EX6_take rfl ?_
  (first | refine BX6_take_0 ?_)
  dsimp only [bX6_take_0, o_acp, o_ald, o_gf, o_ic, o_pf, o_vret, tk, lget, lput, lkill, lmask, ol, lent, flC_0_0, flC_0_1, flC_0_2, flC_0_3, flC_0_4, flC_0_5, flC_0_6, flC_0_7, flC_0_8, flC_0_9, flC_0_10, flC_1_0, flC_1_1, flC_1_2, flC_1_3, flC_1_4, flC_1_5, flC_1_6, flC_1_7, flC_2_0, flC_2_1, flC_2_2, flC_2_3, flC_2_4, flC_2_5, flC_2_6, flC_2_7, flC_2_8, arC_3, arC_4, arC_5, arC_6, arC_7, arC_8, arC_9, flC_10_0, flC_10_1, flC_10_2, flC_10_3, flC_10_4, flC_10_5, flC_10_6, flC_10_7, flC_10_8, arC_11, arC_12, arC_13, arC_14, arC_15, arC_16, flC_17_0, arC_18, flC_19_0, flC_19_1, flC_19_2, arC_20, flC_21_0, flC_21_1, flC_21_2, arC_22, arC_23, flC_24_0, flC_24_1, flC_24_2, arC_25, flC_26_0, flC_26_1, flC_26_2, arC_27, arC_28, flC_29_0, arC_30, flC_31_0, flC_31_1, arC_32, arC_33, arC_34]
  try simp only [up, upL, rp, sf, cpy, Nat.reduceEqDiff, reduceIte, Int.reduceNeg, Int.reduceLE, Int.reduceLT, Int.reduceEq, Int.reduceAdd, Int.reduceSub, Int.reduceMul, ne_eq, not_true_eq_false, not_false_eq_true, true_and, and_true, and_self, false_implies, true_implies, implies_true, forall_const, Nat.reduceAdd, Int.add_zero, Int.zero_add, true_or, or_true, false_or, or_false, List.length_nil, List.length_cons]
  refine hq _ ⟨d1, d2, d3, fun b b0 b1 => ?_, fun r r0 r1 => ?_⟩ (fun k hk => ?_)
  · have hd := d5 b b0 b1
    have hb : 0 ≤ b ∧ b < 7 := by omega
    refine ⟨?_, ?_, ?_, ?_, ?_⟩
    · rw [cpy_ne (by decide), cpy_ne (by decide), cpy_ne (by decide), cpy_ne (by decide), cpy_ne (by decide), cpy_in hb]; exact hd.1
    · rw [cpy_ne (by decide), cpy_ne (by decide), cpy_ne (by decide), cpy_ne (by decide), cpy_in hb, cpy_ne (by decide)]; exact hd.2.1
    · rw [cpy_ne (by decide), cpy_ne (by decide), cpy_ne (by decide), cpy_in hb, cpy_ne (by decide), cpy_ne (by decide)]; exact hd.2.2.1
    · rw [cpy_ne (by decide), cpy_ne (by decide), cpy_in hb, cpy_ne (by decide), cpy_ne (by decide), cpy_ne (by decide)]; exact hd.2.2.2.1
    · rw [cpy_ne (by decide), cpy_in hb, cpy_ne (by decide), cpy_ne (by decide), cpy_ne (by decide), cpy_ne (by decide)]; exact hd.2.2.2.2
  · rw [cpy_in (show 0 ≤ r ∧ r < 6 by omega), cpy_ne (by decide), cpy_ne (by decide), cpy_ne (by decide), cpy_ne (by decide), cpy_ne (by decide)]
    exact d6 r r0 r1
  · rw [cpy_ne (by omega), cpy_ne (by omega), cpy_ne (by omega), cpy_ne (by omega), cpy_ne (by omega), cpy_ne (by omega), up_to, rp_ne (by omega), up_to, rp_ne (by omega), up_to, rp_ne (by omega)]
theorem SimE_D {C D f : Nat → Int → Int} (h : SimE C D) (hn : NW f D) : SimE C f := by
  obtain ⟨a1, a2, a3, a4, a5⟩ := h
  obtain ⟨n1, n2, n3, n4, n5, n6⟩ := hn
  refine ⟨a1.trans n1.symm, a2.trans n2.symm, a3.trans n3.symm, fun b b0 b1 => ?_, fun r r0 r1 => ?_⟩
  · rw [n2] at b1
    have ha := a4 b b0 b1
    have hb := n4 b b0 b1
    rw [hb.1, hb.2.1, hb.2.2.1, hb.2.2.2.1, hb.2.2.2.2]
    exact ha
  · rw [n3] at r1
    rw [n5 r r0 r1]
    exact a5 r r0 r1
theorem OkE_D {D f : Nat → Int → Int} (h : OkE D) (hn : NW f D) : OkE f := by
  obtain ⟨a1, a2, a3, a4, a5, a6, a7⟩ := h
  obtain ⟨n1, n2, n3, n4, n5, n6⟩ := hn
  refine ⟨by rw [n1]; exact a1, by rw [n2]; exact a2, by rw [n3]; exact a3, by rw [n1, n2]; exact a4, by rw [n1, n3]; exact a5, fun b b0 b1 => ?_, fun r r0 r1 => ?_⟩
  · rw [n2] at b1
    have hb := n4 b b0 b1
    rw [hb.1, hb.2.1, hb.2.2.1, hb.2.2.2.1, hb.2.2.2.2]
    exact a6 b b0 b1
  · rw [n3] at r1
    rw [n5 r r0 r1]
    exact a7 r r0 r1
/-- nothing of the duchy, of what is so, is seen, kept has changed -/
theorem Inv_fr {C f C' f' : Nat → Int → Int} (h : Inv C f) (hC : ∀ k, ¬ (1 ≤ k ∧ k ≤ 9) → C' k = C k) (h0 : ∀ i, ¬ (13 ≤ i ∧ i ≤ 19) → ¬ (25 ≤ i ∧ i ≤ 26) → f' 0 i = f 0 i) (hk : ∀ k, k ≠ 0 → ¬ (8 ≤ k ∧ k ≤ 14) → f' k = f k) (ht : I_text C' f') (hf : I_fault C' f') : Inv C' f' := by
  obtain ⟨⟨a1, a2⟩, b, -, -, e, s, bk, pa, im⟩ := h
  have z0 := h0 0 (by omega) (by omega)
  have z1 := h0 1 (by omega) (by omega)
  have z8 := h0 8 (by omega) (by omega)
  have z11 := h0 11 (by omega) (by omega)
  have z28 := h0 28 (by omega) (by omega)
  have z34 := h0 34 (by omega) (by omega)
  have z37 := h0 37 (by omega) (by omega)
  have k1 := hk 1 (by omega) (by omega)
  have k2 := hk 2 (by omega) (by omega)
  have k3 := hk 3 (by omega) (by omega)
  have k4 := hk 4 (by omega) (by omega)
  have k5 := hk 5 (by omega) (by omega)
  have k6 := hk 6 (by omega) (by omega)
  have k7 := hk 7 (by omega) (by omega)
  have k15 := hk 15 (by omega) (by omega)
  have k20 := hk 20 (by omega) (by omega)
  have k21 := hk 21 (by omega) (by omega)
  have k22 := hk 22 (by omega) (by omega)
  have k23 := hk 23 (by omega) (by omega)
  have k24 := hk 24 (by omega) (by omega)
  have k25 := hk 25 (by omega) (by omega)
  have c0 := hC 0 (by omega)
  have c10 := hC 10 (by omega)
  have c11 := hC 11 (by omega)
  have c12 := hC 12 (by omega)
  have c13 := hC 13 (by omega)
  have c14 := hC 14 (by omega)
  have c15 := hC 15 (by omega)
  have c16 := hC 16 (by omega)
  have c18 := hC 18 (by omega)
  have c19 := hC 19 (by omega)
  have c20 := hC 20 (by omega)
  have c21 := hC 21 (by omega)
  have c22 := hC 22 (by omega)
  have c23 := hC 23 (by omega)
  have c24 := hC 24 (by omega)
  have c25 := hC 25 (by omega)
  have c26 := hC 26 (by omega)
  have c27 := hC 27 (by omega)
  have c28 := hC 28 (by omega)
  refine ⟨⟨?_, ?_⟩, ?_, ht, hf, ?_, ?_, ?_, ?_, ?_⟩
  · unfold SimE; rw [c10, c11, c12, c13, c14, c15, c16, z0, z1, z8, k1, k2, k3, k4, k5, k6]; exact a1
  · unfold OkE; rw [z0, z1, z8, k1, k2, k3, k4, k5, k6]; exact a2
  · unfold I_now SimN OkN OkR; rw [c18, z1, z8, k1, k5, k7]; exact b
  · unfold I_seed; rw [c0, z11]; exact e
  · unfold I_seen; rw [c24, c25, z34, k20, k21]; exact s
  · unfold I_book; rw [c26, c27, c28, z37, z1, k22, k23]; exact bk
  · unfold I_past SimN OkN OkR; rw [c19, c20, z28, z1, z8, k1, k5, k15]; exact pa
  · unfold I_img SimN OkN OkR; rw [c21, c22, c23, z1, z8, k1, k5, k24, k25]; exact im
theorem P_duchy {l : Launch} {X Y : Cx} {C f : Nat → Int → Int} (hI : Inv C f) : PQ l X Y 5 5 mX9_duchy mX10_duchy [] C f := by
  obtain ⟨h1, h2, h3, h4, h5, h6, h7, h8, h9⟩ := id hI
  have hT : TX C (f 8) (f 0 13) := ⟨⟨h3.1, h3.2.1.1, h3.2.1.2⟩, h3.2.2⟩
  have hTM : TXM f (f 8) (f 0 13) := ⟨⟨rfl, h3.2.1.1, h3.2.1.2⟩, fun i i0 i1 => ⟨rfl, (h3.2.2 i i0 i1).2⟩⟩
  have hs := sk_bd (T := f 8) (n := f 0 13) (p := 0) h3.2.1.1
  have hpb := pl_bd (T := f 8) (n := f 0 13) 240 D0 (sk (f 8) (f 0 13) 0) D0_ok (by omega) (by omega)
  have hn := h3.2.1
  cases hp : parsed (f 8) (f 0 13) with
  | inl x =>
    obtain ⟨k, q⟩ := x
    have hk := hpb.1 k q hp
    refine ⟨-10 - k, fun C' => C' 1 2 = 0 ∧ (∀ k, ¬ (1 ≤ k ∧ k ≤ 8) → C' k = C k) ∧ C' 1 3 = q, fun f' => f' 0 13 = 0 ∧ f' 0 14 = q ∧ (∀ i, ¬ (13 ≤ i ∧ i ≤ 19) → ¬ (25 ≤ i ∧ i ≤ 26) → f' 0 i = f 0 i) ∧ (∀ k, k ≠ 0 → ¬ (9 ≤ k ∧ k ≤ 14) → f' k = f k), by omega, fun w Q hq => ?_, fun u Q hq => ?_, fun C' f' hC hf => ?_⟩
    · refine EX9_duchy rfl ?_
      (first | refine BX9_duchy_0 ?_ | refine BX9_duchy_7 ?_ | refine BX9_duchy_17 ?_ | refine BX9_duchy_31 ?_ | refine BX9_duchy_38 ?_ | refine BX9_duchy_45 ?_ | refine BX9_duchy_52 ?_ | refine BX9_duchy_59 ?_ | refine BX9_duchy_66 ?_)
      dsimp only [bX9_duchy_0, bX9_duchy_7, bX9_duchy_17, bX9_duchy_31, bX9_duchy_38, bX9_duchy_45, bX9_duchy_52, bX9_duchy_59, bX9_duchy_66, o_ald, o_gf, o_ic, o_ild, o_iret, o_ist, o_sub, o_v0, o_v1, o_zeq, tk, lget, lput, lkill, lmask, ol, lent, flC_0_0, flC_0_1, flC_0_2, flC_0_3, flC_0_4, flC_0_5, flC_0_6, flC_0_7, flC_0_8, flC_0_9, flC_0_10, flC_1_0, flC_1_1, flC_1_2, flC_1_3, flC_1_4, flC_1_5, flC_1_6, flC_1_7, flC_2_0, flC_2_1, flC_2_2, flC_2_3, flC_2_4, flC_2_5, flC_2_6, flC_2_7, flC_2_8, arC_3, arC_4, arC_5, arC_6, arC_7, arC_8, arC_9, flC_10_0, flC_10_1, flC_10_2, flC_10_3, flC_10_4, flC_10_5, flC_10_6, flC_10_7, flC_10_8, arC_11, arC_12, arC_13, arC_14, arC_15, arC_16, flC_17_0, arC_18, flC_19_0, flC_19_1, flC_19_2, arC_20, flC_21_0, flC_21_1, flC_21_2, arC_22, arC_23, flC_24_0, flC_24_1, flC_24_2, arC_25, flC_26_0, flC_26_1, flC_26_2, arC_27, arC_28, flC_29_0, arC_30, flC_31_0, flC_31_1, arC_32, arC_33, arC_34]
      try simp only [up, upL, rp, sf, cpy, Nat.reduceEqDiff, reduceIte, Int.reduceNeg, Int.reduceLE, Int.reduceLT, Int.reduceEq, Int.reduceAdd, Int.reduceSub, Int.reduceMul, ne_eq, not_true_eq_false, not_false_eq_true, true_and, and_true, and_self, false_implies, true_implies, implies_true, forall_const, Nat.reduceAdd, Int.add_zero, Int.zero_add, true_or, or_true, false_or, or_false, List.length_nil, List.length_cons]
      refine ⟨rfl, k_parse hT (fun k' q' hk' C' z1 z2 z3 => ?_) (fun D hk' => by rw [hp] at hk'; cases hk')⟩
      rw [hp] at hk'
      have := Sum.inl.inj hk'
      cases this
      (first | refine BX9_duchy_0 ?_ | refine BX9_duchy_7 ?_ | refine BX9_duchy_17 ?_ | refine BX9_duchy_31 ?_ | refine BX9_duchy_38 ?_ | refine BX9_duchy_45 ?_ | refine BX9_duchy_52 ?_ | refine BX9_duchy_59 ?_ | refine BX9_duchy_66 ?_)
      dsimp only [bX9_duchy_0, bX9_duchy_7, bX9_duchy_17, bX9_duchy_31, bX9_duchy_38, bX9_duchy_45, bX9_duchy_52, bX9_duchy_59, bX9_duchy_66, o_ald, o_gf, o_ic, o_ild, o_iret, o_ist, o_sub, o_v0, o_v1, o_zeq, tk, lget, lput, lkill, lmask, ol, flC_0_0, flC_0_1, flC_0_2, flC_0_3, flC_0_4, flC_0_5, flC_0_6, flC_0_7, flC_0_8, flC_0_9, flC_0_10, flC_1_0, flC_1_1, flC_1_2, flC_1_3, flC_1_4, flC_1_5, flC_1_6, flC_1_7, flC_2_0, flC_2_1, flC_2_2, flC_2_3, flC_2_4, flC_2_5, flC_2_6, flC_2_7, flC_2_8, arC_3, arC_4, arC_5, arC_6, arC_7, arC_8, arC_9, flC_10_0, flC_10_1, flC_10_2, flC_10_3, flC_10_4, flC_10_5, flC_10_6, flC_10_7, flC_10_8, arC_11, arC_12, arC_13, arC_14, arC_15, arC_16, flC_17_0, arC_18, flC_19_0, flC_19_1, flC_19_2, arC_20, flC_21_0, flC_21_1, flC_21_2, arC_22, arC_23, flC_24_0, flC_24_1, flC_24_2, arC_25, flC_26_0, flC_26_1, flC_26_2, arC_27, arC_28, flC_29_0, arC_30, flC_31_0, flC_31_1, arC_32, arC_33, arC_34]
      try simp only [up, upL, rp, sf, cpy, Nat.reduceEqDiff, reduceIte, Int.reduceNeg, Int.reduceLE, Int.reduceLT, Int.reduceEq, Int.reduceAdd, Int.reduceSub, Int.reduceMul, ne_eq, not_true_eq_false, not_false_eq_true, true_and, and_true, and_self, false_implies, true_implies, implies_true, forall_const, Nat.reduceAdd, Int.add_zero, Int.zero_add, true_or, or_true, false_or, or_false, List.length_nil, List.length_cons]
      exact ⟨by omega, fun h => absurd h (by omega), fun _ => hq (C', w) ⟨z1, z2, z3⟩⟩
    · refine c_duchy hTM (fun k' q' hk' f' z1 z2 z3 z4 => ?_) (fun D hk' => by rw [hp] at hk'; cases hk')
      rw [hp] at hk'
      have := Sum.inl.inj hk'
      cases this
      exact hq (f', u) ⟨z1, z2, z3, z4⟩
    · refine Inv_fr hI (fun k hk => hC.2.1 k (by omega)) hf.2.2.1 (fun k k0 k1 => hf.2.2.2 k k0 (by omega)) ⟨hC.1.trans hf.1.symm, by rw [hf.1]; omega, fun i i0 i1 => by rw [hf.1] at i1; omega⟩ ⟨hC.2.2.trans hf.2.1.symm, by rw [hf.2.1]; omega⟩
  | inr D =>
    have hO := hpb.2 D hp
    have hB := hO.1.2.1
    have hR := hO.1.2.2.1
    refine ⟨D 0 1, fun C' => SimE C' D ∧ (∀ i, 0 ≤ i → i < 32 → C' 18 i = if 21 ≤ i ∧ i < 27 then -1 else 0) ∧ C' 1 2 = 0 ∧ C' 1 3 = -1 ∧ C' 0 10 = C 0 10 ∧ C' 24 2 = 0 ∧ C' 24 1 = 0 ∧ C' 26 2 = 0 ∧ C' 19 1 = 0 ∧ C' 19 2 = C 19 2 ∧ C' 21 2 = 0, fun f' => NW f' D ∧ f' 0 13 = 0 ∧ f' 0 14 = -1 ∧ f' 0 11 = f 0 11 ∧ f' 0 34 = 0 ∧ f' 0 37 = 0 ∧ f' 0 28 = 0 ∧ f' 25 0 = 0 ∧ f' 25 1 = 0, by omega, fun w Q hq => ?_, fun u Q hq => ?_, fun C' f' hC hf => ?_⟩
    · refine EX9_duchy rfl ?_
      (first | refine BX9_duchy_0 ?_ | refine BX9_duchy_7 ?_ | refine BX9_duchy_17 ?_ | refine BX9_duchy_31 ?_ | refine BX9_duchy_38 ?_ | refine BX9_duchy_45 ?_ | refine BX9_duchy_52 ?_ | refine BX9_duchy_59 ?_ | refine BX9_duchy_66 ?_)
      dsimp only [bX9_duchy_0, bX9_duchy_7, bX9_duchy_17, bX9_duchy_31, bX9_duchy_38, bX9_duchy_45, bX9_duchy_52, bX9_duchy_59, bX9_duchy_66, o_ald, o_gf, o_ic, o_ild, o_iret, o_ist, o_sub, o_v0, o_v1, o_zeq, tk, lget, lput, lkill, lmask, ol, lent, flC_0_0, flC_0_1, flC_0_2, flC_0_3, flC_0_4, flC_0_5, flC_0_6, flC_0_7, flC_0_8, flC_0_9, flC_0_10, flC_1_0, flC_1_1, flC_1_2, flC_1_3, flC_1_4, flC_1_5, flC_1_6, flC_1_7, flC_2_0, flC_2_1, flC_2_2, flC_2_3, flC_2_4, flC_2_5, flC_2_6, flC_2_7, flC_2_8, arC_3, arC_4, arC_5, arC_6, arC_7, arC_8, arC_9, flC_10_0, flC_10_1, flC_10_2, flC_10_3, flC_10_4, flC_10_5, flC_10_6, flC_10_7, flC_10_8, arC_11, arC_12, arC_13, arC_14, arC_15, arC_16, flC_17_0, arC_18, flC_19_0, flC_19_1, flC_19_2, arC_20, flC_21_0, flC_21_1, flC_21_2, arC_22, arC_23, flC_24_0, flC_24_1, flC_24_2, arC_25, flC_26_0, flC_26_1, flC_26_2, arC_27, arC_28, flC_29_0, arC_30, flC_31_0, flC_31_1, arC_32, arC_33, arC_34]
      try simp only [up, upL, rp, sf, cpy, Nat.reduceEqDiff, reduceIte, Int.reduceNeg, Int.reduceLE, Int.reduceLT, Int.reduceEq, Int.reduceAdd, Int.reduceSub, Int.reduceMul, ne_eq, not_true_eq_false, not_false_eq_true, true_and, and_true, and_self, false_implies, true_implies, implies_true, forall_const, Nat.reduceAdd, Int.add_zero, Int.zero_add, true_or, or_true, false_or, or_false, List.length_nil, List.length_cons]
      refine ⟨rfl, k_parse hT (fun k' q' hk' => by rw [hp] at hk'; cases hk') (fun D' hk' C1 z1 z2 z3 zd => ?_)⟩
      rw [hp] at hk'
      have := Sum.inr.inj hk'
      subst this
      (first | refine BX9_duchy_0 ?_ | refine BX9_duchy_7 ?_ | refine BX9_duchy_17 ?_ | refine BX9_duchy_31 ?_ | refine BX9_duchy_38 ?_ | refine BX9_duchy_45 ?_ | refine BX9_duchy_52 ?_ | refine BX9_duchy_59 ?_ | refine BX9_duchy_66 ?_)
      dsimp only [bX9_duchy_0, bX9_duchy_7, bX9_duchy_17, bX9_duchy_31, bX9_duchy_38, bX9_duchy_45, bX9_duchy_52, bX9_duchy_59, bX9_duchy_66, o_ald, o_gf, o_ic, o_ild, o_iret, o_ist, o_sub, o_v0, o_v1, o_zeq, tk, lget, lput, lkill, lmask, ol, flC_0_0, flC_0_1, flC_0_2, flC_0_3, flC_0_4, flC_0_5, flC_0_6, flC_0_7, flC_0_8, flC_0_9, flC_0_10, flC_1_0, flC_1_1, flC_1_2, flC_1_3, flC_1_4, flC_1_5, flC_1_6, flC_1_7, flC_2_0, flC_2_1, flC_2_2, flC_2_3, flC_2_4, flC_2_5, flC_2_6, flC_2_7, flC_2_8, arC_3, arC_4, arC_5, arC_6, arC_7, arC_8, arC_9, flC_10_0, flC_10_1, flC_10_2, flC_10_3, flC_10_4, flC_10_5, flC_10_6, flC_10_7, flC_10_8, arC_11, arC_12, arC_13, arC_14, arC_15, arC_16, flC_17_0, arC_18, flC_19_0, flC_19_1, flC_19_2, arC_20, flC_21_0, flC_21_1, flC_21_2, arC_22, arC_23, flC_24_0, flC_24_1, flC_24_2, arC_25, flC_26_0, flC_26_1, flC_26_2, arC_27, arC_28, flC_29_0, arC_30, flC_31_0, flC_31_1, arC_32, arC_33, arC_34]
      try simp only [up, upL, rp, sf, cpy, Nat.reduceEqDiff, reduceIte, Int.reduceNeg, Int.reduceLE, Int.reduceLT, Int.reduceEq, Int.reduceAdd, Int.reduceSub, Int.reduceMul, ne_eq, not_true_eq_false, not_false_eq_true, true_and, and_true, and_self, false_implies, true_implies, implies_true, forall_const, Nat.reduceAdd, Int.add_zero, Int.zero_add, true_or, or_true, false_or, or_false, List.length_nil, List.length_cons]
      (first | refine BX9_duchy_0 ?_ | refine BX9_duchy_7 ?_ | refine BX9_duchy_17 ?_ | refine BX9_duchy_31 ?_ | refine BX9_duchy_38 ?_ | refine BX9_duchy_45 ?_ | refine BX9_duchy_52 ?_ | refine BX9_duchy_59 ?_ | refine BX9_duchy_66 ?_)
      dsimp only [bX9_duchy_0, bX9_duchy_7, bX9_duchy_17, bX9_duchy_31, bX9_duchy_38, bX9_duchy_45, bX9_duchy_52, bX9_duchy_59, bX9_duchy_66, o_ald, o_gf, o_ic, o_ild, o_iret, o_ist, o_sub, o_v0, o_v1, o_zeq, tk, lget, lput, lkill, lmask, ol, flC_0_0, flC_0_1, flC_0_2, flC_0_3, flC_0_4, flC_0_5, flC_0_6, flC_0_7, flC_0_8, flC_0_9, flC_0_10, flC_1_0, flC_1_1, flC_1_2, flC_1_3, flC_1_4, flC_1_5, flC_1_6, flC_1_7, flC_2_0, flC_2_1, flC_2_2, flC_2_3, flC_2_4, flC_2_5, flC_2_6, flC_2_7, flC_2_8, arC_3, arC_4, arC_5, arC_6, arC_7, arC_8, arC_9, flC_10_0, flC_10_1, flC_10_2, flC_10_3, flC_10_4, flC_10_5, flC_10_6, flC_10_7, flC_10_8, arC_11, arC_12, arC_13, arC_14, arC_15, arC_16, flC_17_0, arC_18, flC_19_0, flC_19_1, flC_19_2, arC_20, flC_21_0, flC_21_1, flC_21_2, arC_22, arC_23, flC_24_0, flC_24_1, flC_24_2, arC_25, flC_26_0, flC_26_1, flC_26_2, arC_27, arC_28, flC_29_0, arC_30, flC_31_0, flC_31_1, arC_32, arC_33, arC_34]
      try simp only [up, upL, rp, sf, cpy, Nat.reduceEqDiff, reduceIte, Int.reduceNeg, Int.reduceLE, Int.reduceLT, Int.reduceEq, Int.reduceAdd, Int.reduceSub, Int.reduceMul, ne_eq, not_true_eq_false, not_false_eq_true, true_and, and_true, and_self, false_implies, true_implies, implies_true, forall_const, Nat.reduceAdd, Int.add_zero, Int.zero_add, true_or, or_true, false_or, or_false, List.length_nil, List.length_cons]
      refine ⟨rfl, k_take zd hO (fun C2 y1 y2 => ?_)⟩
      (first | refine BX9_duchy_0 ?_ | refine BX9_duchy_7 ?_ | refine BX9_duchy_17 ?_ | refine BX9_duchy_31 ?_ | refine BX9_duchy_38 ?_ | refine BX9_duchy_45 ?_ | refine BX9_duchy_52 ?_ | refine BX9_duchy_59 ?_ | refine BX9_duchy_66 ?_)
      dsimp only [bX9_duchy_0, bX9_duchy_7, bX9_duchy_17, bX9_duchy_31, bX9_duchy_38, bX9_duchy_45, bX9_duchy_52, bX9_duchy_59, bX9_duchy_66, o_ald, o_gf, o_ic, o_ild, o_iret, o_ist, o_sub, o_v0, o_v1, o_zeq, tk, lget, lput, lkill, lmask, ol, flC_0_0, flC_0_1, flC_0_2, flC_0_3, flC_0_4, flC_0_5, flC_0_6, flC_0_7, flC_0_8, flC_0_9, flC_0_10, flC_1_0, flC_1_1, flC_1_2, flC_1_3, flC_1_4, flC_1_5, flC_1_6, flC_1_7, flC_2_0, flC_2_1, flC_2_2, flC_2_3, flC_2_4, flC_2_5, flC_2_6, flC_2_7, flC_2_8, arC_3, arC_4, arC_5, arC_6, arC_7, arC_8, arC_9, flC_10_0, flC_10_1, flC_10_2, flC_10_3, flC_10_4, flC_10_5, flC_10_6, flC_10_7, flC_10_8, arC_11, arC_12, arC_13, arC_14, arC_15, arC_16, flC_17_0, arC_18, flC_19_0, flC_19_1, flC_19_2, arC_20, flC_21_0, flC_21_1, flC_21_2, arC_22, arC_23, flC_24_0, flC_24_1, flC_24_2, arC_25, flC_26_0, flC_26_1, flC_26_2, arC_27, arC_28, flC_29_0, arC_30, flC_31_0, flC_31_1, arC_32, arC_33, arC_34]
      try simp only [up, upL, rp, sf, cpy, Nat.reduceEqDiff, reduceIte, Int.reduceNeg, Int.reduceLE, Int.reduceLT, Int.reduceEq, Int.reduceAdd, Int.reduceSub, Int.reduceMul, ne_eq, not_true_eq_false, not_false_eq_true, true_and, and_true, and_self, false_implies, true_implies, implies_true, forall_const, Nat.reduceAdd, Int.add_zero, Int.zero_add, true_or, or_true, false_or, or_false, List.length_nil, List.length_cons]
      refine ⟨rfl, k_clear (fun c hc => ?_)⟩
      (first | refine BX9_duchy_0 ?_ | refine BX9_duchy_7 ?_ | refine BX9_duchy_17 ?_ | refine BX9_duchy_31 ?_ | refine BX9_duchy_38 ?_ | refine BX9_duchy_45 ?_ | refine BX9_duchy_52 ?_ | refine BX9_duchy_59 ?_ | refine BX9_duchy_66 ?_)
      dsimp only [bX9_duchy_0, bX9_duchy_7, bX9_duchy_17, bX9_duchy_31, bX9_duchy_38, bX9_duchy_45, bX9_duchy_52, bX9_duchy_59, bX9_duchy_66, o_ald, o_gf, o_ic, o_ild, o_iret, o_ist, o_sub, o_v0, o_v1, o_zeq, tk, lget, lput, lkill, lmask, ol, flC_0_0, flC_0_1, flC_0_2, flC_0_3, flC_0_4, flC_0_5, flC_0_6, flC_0_7, flC_0_8, flC_0_9, flC_0_10, flC_1_0, flC_1_1, flC_1_2, flC_1_3, flC_1_4, flC_1_5, flC_1_6, flC_1_7, flC_2_0, flC_2_1, flC_2_2, flC_2_3, flC_2_4, flC_2_5, flC_2_6, flC_2_7, flC_2_8, arC_3, arC_4, arC_5, arC_6, arC_7, arC_8, arC_9, flC_10_0, flC_10_1, flC_10_2, flC_10_3, flC_10_4, flC_10_5, flC_10_6, flC_10_7, flC_10_8, arC_11, arC_12, arC_13, arC_14, arC_15, arC_16, flC_17_0, arC_18, flC_19_0, flC_19_1, flC_19_2, arC_20, flC_21_0, flC_21_1, flC_21_2, arC_22, arC_23, flC_24_0, flC_24_1, flC_24_2, arC_25, flC_26_0, flC_26_1, flC_26_2, arC_27, arC_28, flC_29_0, arC_30, flC_31_0, flC_31_1, arC_32, arC_33, arC_34]
      try simp only [up, upL, rp, sf, cpy, Nat.reduceEqDiff, reduceIte, Int.reduceNeg, Int.reduceLE, Int.reduceLT, Int.reduceEq, Int.reduceAdd, Int.reduceSub, Int.reduceMul, ne_eq, not_true_eq_false, not_false_eq_true, true_and, and_true, and_self, false_implies, true_implies, implies_true, forall_const, Nat.reduceAdd, Int.add_zero, Int.zero_add, true_or, or_true, false_or, or_false, List.length_nil, List.length_cons]
      refine ⟨rfl, ?_⟩
      refine EX3_forget rfl ?_
      (first | refine BX3_forget_0 ?_)
      dsimp only [bX3_forget_0, o_ald, o_ic, o_pf, o_vret, tk, lget, lput, lkill, lmask, ol, lent, flC_0_0, flC_0_1, flC_0_2, flC_0_3, flC_0_4, flC_0_5, flC_0_6, flC_0_7, flC_0_8, flC_0_9, flC_0_10, flC_1_0, flC_1_1, flC_1_2, flC_1_3, flC_1_4, flC_1_5, flC_1_6, flC_1_7, flC_2_0, flC_2_1, flC_2_2, flC_2_3, flC_2_4, flC_2_5, flC_2_6, flC_2_7, flC_2_8, arC_3, arC_4, arC_5, arC_6, arC_7, arC_8, arC_9, flC_10_0, flC_10_1, flC_10_2, flC_10_3, flC_10_4, flC_10_5, flC_10_6, flC_10_7, flC_10_8, arC_11, arC_12, arC_13, arC_14, arC_15, arC_16, flC_17_0, arC_18, flC_19_0, flC_19_1, flC_19_2, arC_20, flC_21_0, flC_21_1, flC_21_2, arC_22, arC_23, flC_24_0, flC_24_1, flC_24_2, arC_25, flC_26_0, flC_26_1, flC_26_2, arC_27, arC_28, flC_29_0, arC_30, flC_31_0, flC_31_1, arC_32, arC_33, arC_34]
      try simp only [up, upL, rp, sf, cpy, Nat.reduceEqDiff, reduceIte, Int.reduceNeg, Int.reduceLE, Int.reduceLT, Int.reduceEq, Int.reduceAdd, Int.reduceSub, Int.reduceMul, ne_eq, not_true_eq_false, not_false_eq_true, true_and, and_true, and_self, false_implies, true_implies, implies_true, forall_const, Nat.reduceAdd, Int.add_zero, Int.zero_add, true_or, or_true, false_or, or_false, List.length_nil, List.length_cons]
      (first | refine BX9_duchy_0 ?_ | refine BX9_duchy_7 ?_ | refine BX9_duchy_17 ?_ | refine BX9_duchy_31 ?_ | refine BX9_duchy_38 ?_ | refine BX9_duchy_45 ?_ | refine BX9_duchy_52 ?_ | refine BX9_duchy_59 ?_ | refine BX9_duchy_66 ?_)
      dsimp only [bX9_duchy_0, bX9_duchy_7, bX9_duchy_17, bX9_duchy_31, bX9_duchy_38, bX9_duchy_45, bX9_duchy_52, bX9_duchy_59, bX9_duchy_66, o_ald, o_gf, o_ic, o_ild, o_iret, o_ist, o_sub, o_v0, o_v1, o_zeq, tk, lget, lput, lkill, lmask, ol, flC_0_0, flC_0_1, flC_0_2, flC_0_3, flC_0_4, flC_0_5, flC_0_6, flC_0_7, flC_0_8, flC_0_9, flC_0_10, flC_1_0, flC_1_1, flC_1_2, flC_1_3, flC_1_4, flC_1_5, flC_1_6, flC_1_7, flC_2_0, flC_2_1, flC_2_2, flC_2_3, flC_2_4, flC_2_5, flC_2_6, flC_2_7, flC_2_8, arC_3, arC_4, arC_5, arC_6, arC_7, arC_8, arC_9, flC_10_0, flC_10_1, flC_10_2, flC_10_3, flC_10_4, flC_10_5, flC_10_6, flC_10_7, flC_10_8, arC_11, arC_12, arC_13, arC_14, arC_15, arC_16, flC_17_0, arC_18, flC_19_0, flC_19_1, flC_19_2, arC_20, flC_21_0, flC_21_1, flC_21_2, arC_22, arC_23, flC_24_0, flC_24_1, flC_24_2, arC_25, flC_26_0, flC_26_1, flC_26_2, arC_27, arC_28, flC_29_0, arC_30, flC_31_0, flC_31_1, arC_32, arC_33, arC_34]
      try simp only [up, upL, rp, sf, cpy, Nat.reduceEqDiff, reduceIte, Int.reduceNeg, Int.reduceLE, Int.reduceLT, Int.reduceEq, Int.reduceAdd, Int.reduceSub, Int.reduceMul, ne_eq, not_true_eq_false, not_false_eq_true, true_and, and_true, and_self, false_implies, true_implies, implies_true, forall_const, Nat.reduceAdd, Int.add_zero, Int.zero_add, true_or, or_true, false_or, or_false, List.length_nil, List.length_cons]
      refine ⟨rfl, ?_⟩
      refine EX0_clear rfl ?_
      (first | refine BX0_clear_0 ?_)
      dsimp only [bX0_clear_0, o_ald, o_ic, o_pf, o_vret, tk, lget, lput, lkill, lmask, ol, lent, flC_0_0, flC_0_1, flC_0_2, flC_0_3, flC_0_4, flC_0_5, flC_0_6, flC_0_7, flC_0_8, flC_0_9, flC_0_10, flC_1_0, flC_1_1, flC_1_2, flC_1_3, flC_1_4, flC_1_5, flC_1_6, flC_1_7, flC_2_0, flC_2_1, flC_2_2, flC_2_3, flC_2_4, flC_2_5, flC_2_6, flC_2_7, flC_2_8, arC_3, arC_4, arC_5, arC_6, arC_7, arC_8, arC_9, flC_10_0, flC_10_1, flC_10_2, flC_10_3, flC_10_4, flC_10_5, flC_10_6, flC_10_7, flC_10_8, arC_11, arC_12, arC_13, arC_14, arC_15, arC_16, flC_17_0, arC_18, flC_19_0, flC_19_1, flC_19_2, arC_20, flC_21_0, flC_21_1, flC_21_2, arC_22, arC_23, flC_24_0, flC_24_1, flC_24_2, arC_25, flC_26_0, flC_26_1, flC_26_2, arC_27, arC_28, flC_29_0, arC_30, flC_31_0, flC_31_1, arC_32, arC_33, arC_34]
      try simp only [up, upL, rp, sf, cpy, Nat.reduceEqDiff, reduceIte, Int.reduceNeg, Int.reduceLE, Int.reduceLT, Int.reduceEq, Int.reduceAdd, Int.reduceSub, Int.reduceMul, ne_eq, not_true_eq_false, not_false_eq_true, true_and, and_true, and_self, false_implies, true_implies, implies_true, forall_const, Nat.reduceAdd, Int.add_zero, Int.zero_add, true_or, or_true, false_or, or_false, List.length_nil, List.length_cons]
      (first | refine BX9_duchy_0 ?_ | refine BX9_duchy_7 ?_ | refine BX9_duchy_17 ?_ | refine BX9_duchy_31 ?_ | refine BX9_duchy_38 ?_ | refine BX9_duchy_45 ?_ | refine BX9_duchy_52 ?_ | refine BX9_duchy_59 ?_ | refine BX9_duchy_66 ?_)
      dsimp only [bX9_duchy_0, bX9_duchy_7, bX9_duchy_17, bX9_duchy_31, bX9_duchy_38, bX9_duchy_45, bX9_duchy_52, bX9_duchy_59, bX9_duchy_66, o_ald, o_gf, o_ic, o_ild, o_iret, o_ist, o_sub, o_v0, o_v1, o_zeq, tk, lget, lput, lkill, lmask, ol, flC_0_0, flC_0_1, flC_0_2, flC_0_3, flC_0_4, flC_0_5, flC_0_6, flC_0_7, flC_0_8, flC_0_9, flC_0_10, flC_1_0, flC_1_1, flC_1_2, flC_1_3, flC_1_4, flC_1_5, flC_1_6, flC_1_7, flC_2_0, flC_2_1, flC_2_2, flC_2_3, flC_2_4, flC_2_5, flC_2_6, flC_2_7, flC_2_8, arC_3, arC_4, arC_5, arC_6, arC_7, arC_8, arC_9, flC_10_0, flC_10_1, flC_10_2, flC_10_3, flC_10_4, flC_10_5, flC_10_6, flC_10_7, flC_10_8, arC_11, arC_12, arC_13, arC_14, arC_15, arC_16, flC_17_0, arC_18, flC_19_0, flC_19_1, flC_19_2, arC_20, flC_21_0, flC_21_1, flC_21_2, arC_22, arC_23, flC_24_0, flC_24_1, flC_24_2, arC_25, flC_26_0, flC_26_1, flC_26_2, arC_27, arC_28, flC_29_0, arC_30, flC_31_0, flC_31_1, arC_32, arC_33, arC_34]
      try simp only [up, upL, rp, sf, cpy, Nat.reduceEqDiff, reduceIte, Int.reduceNeg, Int.reduceLE, Int.reduceLT, Int.reduceEq, Int.reduceAdd, Int.reduceSub, Int.reduceMul, ne_eq, not_true_eq_false, not_false_eq_true, true_and, and_true, and_self, false_implies, true_implies, implies_true, forall_const, Nat.reduceAdd, Int.add_zero, Int.zero_add, true_or, or_true, false_or, or_false, List.length_nil, List.length_cons]
      refine ⟨rfl, ?_⟩
      refine EX8_clear rfl ?_
      (first | refine BX8_clear_0 ?_)
      dsimp only [bX8_clear_0, o_ald, o_ic, o_pf, o_vret, tk, lget, lput, lkill, lmask, ol, lent, flC_0_0, flC_0_1, flC_0_2, flC_0_3, flC_0_4, flC_0_5, flC_0_6, flC_0_7, flC_0_8, flC_0_9, flC_0_10, flC_1_0, flC_1_1, flC_1_2, flC_1_3, flC_1_4, flC_1_5, flC_1_6, flC_1_7, flC_2_0, flC_2_1, flC_2_2, flC_2_3, flC_2_4, flC_2_5, flC_2_6, flC_2_7, flC_2_8, arC_3, arC_4, arC_5, arC_6, arC_7, arC_8, arC_9, flC_10_0, flC_10_1, flC_10_2, flC_10_3, flC_10_4, flC_10_5, flC_10_6, flC_10_7, flC_10_8, arC_11, arC_12, arC_13, arC_14, arC_15, arC_16, flC_17_0, arC_18, flC_19_0, flC_19_1, flC_19_2, arC_20, flC_21_0, flC_21_1, flC_21_2, arC_22, arC_23, flC_24_0, flC_24_1, flC_24_2, arC_25, flC_26_0, flC_26_1, flC_26_2, arC_27, arC_28, flC_29_0, arC_30, flC_31_0, flC_31_1, arC_32, arC_33, arC_34]
      try simp only [up, upL, rp, sf, cpy, Nat.reduceEqDiff, reduceIte, Int.reduceNeg, Int.reduceLE, Int.reduceLT, Int.reduceEq, Int.reduceAdd, Int.reduceSub, Int.reduceMul, ne_eq, not_true_eq_false, not_false_eq_true, true_and, and_true, and_self, false_implies, true_implies, implies_true, forall_const, Nat.reduceAdd, Int.add_zero, Int.zero_add, true_or, or_true, false_or, or_false, List.length_nil, List.length_cons]
      (first | refine BX9_duchy_0 ?_ | refine BX9_duchy_7 ?_ | refine BX9_duchy_17 ?_ | refine BX9_duchy_31 ?_ | refine BX9_duchy_38 ?_ | refine BX9_duchy_45 ?_ | refine BX9_duchy_52 ?_ | refine BX9_duchy_59 ?_ | refine BX9_duchy_66 ?_)
      dsimp only [bX9_duchy_0, bX9_duchy_7, bX9_duchy_17, bX9_duchy_31, bX9_duchy_38, bX9_duchy_45, bX9_duchy_52, bX9_duchy_59, bX9_duchy_66, o_ald, o_gf, o_ic, o_ild, o_iret, o_ist, o_sub, o_v0, o_v1, o_zeq, tk, lget, lput, lkill, lmask, ol, flC_0_0, flC_0_1, flC_0_2, flC_0_3, flC_0_4, flC_0_5, flC_0_6, flC_0_7, flC_0_8, flC_0_9, flC_0_10, flC_1_0, flC_1_1, flC_1_2, flC_1_3, flC_1_4, flC_1_5, flC_1_6, flC_1_7, flC_2_0, flC_2_1, flC_2_2, flC_2_3, flC_2_4, flC_2_5, flC_2_6, flC_2_7, flC_2_8, arC_3, arC_4, arC_5, arC_6, arC_7, arC_8, arC_9, flC_10_0, flC_10_1, flC_10_2, flC_10_3, flC_10_4, flC_10_5, flC_10_6, flC_10_7, flC_10_8, arC_11, arC_12, arC_13, arC_14, arC_15, arC_16, flC_17_0, arC_18, flC_19_0, flC_19_1, flC_19_2, arC_20, flC_21_0, flC_21_1, flC_21_2, arC_22, arC_23, flC_24_0, flC_24_1, flC_24_2, arC_25, flC_26_0, flC_26_1, flC_26_2, arC_27, arC_28, flC_29_0, arC_30, flC_31_0, flC_31_1, arC_32, arC_33, arC_34]
      try simp only [up, upL, rp, sf, cpy, Nat.reduceEqDiff, reduceIte, Int.reduceNeg, Int.reduceLE, Int.reduceLT, Int.reduceEq, Int.reduceAdd, Int.reduceSub, Int.reduceMul, ne_eq, not_true_eq_false, not_false_eq_true, true_and, and_true, and_self, false_implies, true_implies, implies_true, forall_const, Nat.reduceAdd, Int.add_zero, Int.zero_add, true_or, or_true, false_or, or_false, List.length_nil, List.length_cons]
      refine ⟨rfl, ?_⟩
      refine EX2_clear rfl ?_
      (first | refine BX2_clear_0 ?_)
      dsimp only [bX2_clear_0, o_ald, o_ic, o_pf, o_vret, tk, lget, lput, lkill, lmask, ol, lent, flC_0_0, flC_0_1, flC_0_2, flC_0_3, flC_0_4, flC_0_5, flC_0_6, flC_0_7, flC_0_8, flC_0_9, flC_0_10, flC_1_0, flC_1_1, flC_1_2, flC_1_3, flC_1_4, flC_1_5, flC_1_6, flC_1_7, flC_2_0, flC_2_1, flC_2_2, flC_2_3, flC_2_4, flC_2_5, flC_2_6, flC_2_7, flC_2_8, arC_3, arC_4, arC_5, arC_6, arC_7, arC_8, arC_9, flC_10_0, flC_10_1, flC_10_2, flC_10_3, flC_10_4, flC_10_5, flC_10_6, flC_10_7, flC_10_8, arC_11, arC_12, arC_13, arC_14, arC_15, arC_16, flC_17_0, arC_18, flC_19_0, flC_19_1, flC_19_2, arC_20, flC_21_0, flC_21_1, flC_21_2, arC_22, arC_23, flC_24_0, flC_24_1, flC_24_2, arC_25, flC_26_0, flC_26_1, flC_26_2, arC_27, arC_28, flC_29_0, arC_30, flC_31_0, flC_31_1, arC_32, arC_33, arC_34]
      try simp only [up, upL, rp, sf, cpy, Nat.reduceEqDiff, reduceIte, Int.reduceNeg, Int.reduceLE, Int.reduceLT, Int.reduceEq, Int.reduceAdd, Int.reduceSub, Int.reduceMul, ne_eq, not_true_eq_false, not_false_eq_true, true_and, and_true, and_self, false_implies, true_implies, implies_true, forall_const, Nat.reduceAdd, Int.add_zero, Int.zero_add, true_or, or_true, false_or, or_false, List.length_nil, List.length_cons]
      (first | refine BX9_duchy_0 ?_ | refine BX9_duchy_7 ?_ | refine BX9_duchy_17 ?_ | refine BX9_duchy_31 ?_ | refine BX9_duchy_38 ?_ | refine BX9_duchy_45 ?_ | refine BX9_duchy_52 ?_ | refine BX9_duchy_59 ?_ | refine BX9_duchy_66 ?_)
      dsimp only [bX9_duchy_0, bX9_duchy_7, bX9_duchy_17, bX9_duchy_31, bX9_duchy_38, bX9_duchy_45, bX9_duchy_52, bX9_duchy_59, bX9_duchy_66, o_ald, o_gf, o_ic, o_ild, o_iret, o_ist, o_sub, o_v0, o_v1, o_zeq, tk, lget, lput, lkill, lmask, ol, flC_0_0, flC_0_1, flC_0_2, flC_0_3, flC_0_4, flC_0_5, flC_0_6, flC_0_7, flC_0_8, flC_0_9, flC_0_10, flC_1_0, flC_1_1, flC_1_2, flC_1_3, flC_1_4, flC_1_5, flC_1_6, flC_1_7, flC_2_0, flC_2_1, flC_2_2, flC_2_3, flC_2_4, flC_2_5, flC_2_6, flC_2_7, flC_2_8, arC_3, arC_4, arC_5, arC_6, arC_7, arC_8, arC_9, flC_10_0, flC_10_1, flC_10_2, flC_10_3, flC_10_4, flC_10_5, flC_10_6, flC_10_7, flC_10_8, arC_11, arC_12, arC_13, arC_14, arC_15, arC_16, flC_17_0, arC_18, flC_19_0, flC_19_1, flC_19_2, arC_20, flC_21_0, flC_21_1, flC_21_2, arC_22, arC_23, flC_24_0, flC_24_1, flC_24_2, arC_25, flC_26_0, flC_26_1, flC_26_2, arC_27, arC_28, flC_29_0, arC_30, flC_31_0, flC_31_1, arC_32, arC_33, arC_34]
      try simp only [up, upL, rp, sf, cpy, Nat.reduceEqDiff, reduceIte, Int.reduceNeg, Int.reduceLE, Int.reduceLT, Int.reduceEq, Int.reduceAdd, Int.reduceSub, Int.reduceMul, ne_eq, not_true_eq_false, not_false_eq_true, true_and, and_true, and_self, false_implies, true_implies, implies_true, forall_const, Nat.reduceAdd, Int.add_zero, Int.zero_add, true_or, or_true, false_or, or_false, List.length_nil, List.length_cons]
      rw [y1.2.1]
      have e1 := y2 1 (by omega)
      have e0 := (y2 0 (by omega)).trans (z2 0 (by omega))
      have e19 := (y2 19 (by omega)).trans (z2 19 (by omega))
      refine hq (_, w) ⟨y1, hc, ?_, ?_, ?_, rfl, rfl, rfl, rfl, ?_, rfl⟩
      · show C2 1 2 = 0; rw [e1]; exact z1
      · show C2 1 3 = -1; rw [e1]; exact z3
      · show C2 0 10 = C 0 10; rw [e0]
      · show C2 19 2 = C 19 2; rw [e19]
    · refine c_duchy hTM (fun k' q' hk' => by rw [hp] at hk'; cases hk') (fun D' hk' f' z1 z2 z3 z4 z5 z6 z7 z8 z9 => ?_)
      rw [hp] at hk'
      have := Sum.inr.inj hk'
      subst this
      exact hq (f', u) ⟨z1, z2, z3, z4, z5, z6, z7, z8, z9⟩
    · obtain ⟨y1, y2, y3, y4, y5, y6, y7, y8, y9, y10, y11⟩ := hC
      obtain ⟨z1, z2, z3, z4, z5, z6, z7, z8, z9⟩ := hf
      have hE := OkE_D hO.1 z1
      have eB := z1.2.1
      have eR := z1.2.2.1
      have n7 := z1.2.2.2.2.2
      have g7 : f' 7 7 = 0 := by rw [n7 7 (by omega) (by omega), if_neg (by omega)]
      have g8 : f' 7 8 = 0 := by rw [n7 8 (by omega) (by omega), if_neg (by omega)]
      have g29 : f' 7 29 = 0 := by rw [n7 29 (by omega) (by omega), if_neg (by omega)]
      have g30 : f' 7 30 = 0 := by rw [n7 30 (by omega) (by omega), if_neg (by omega)]
      have g31 : f' 7 31 = 0 := by rw [n7 31 (by omega) (by omega), if_neg (by omega)]
      refine ⟨⟨SimE_D y1 z1, hE⟩, ⟨⟨fun b b0 b1 => ?_, fun r r0 r1 => ?_, ?_, ?_, ?_, ?_, ?_, fun b b0 b1 => ?_⟩, ⟨fun b b0 b1 => ?_, fun r r0 r1 => ?_, by omega, by omega, by omega, by omega⟩, by omega, fun b b0 b1 hb => ?_⟩, ⟨y3.trans z2.symm, by omega, fun i i0 i1 => by omega⟩, ⟨y4.trans z3.symm, by omega⟩, ⟨y5.trans (h5.1.trans z4.symm), by rw [z4]; exact h5.2⟩, ⟨y6.trans z5.symm, by omega, by omega, fun i i0 i1 => by omega, fun i i0 i1 => ?_⟩, ⟨y8.trans z6.symm, by omega, fun i i0 i1 => by omega⟩, ⟨y9.trans z7.symm, by omega, by rw [y10]; exact h8.2.2.1, fun i i0 i1 => by omega⟩, ⟨by omega, fun i i0 i1 => ?_⟩⟩
      · rw [eB] at b1
        rw [y2 b b0 (by omega), y2 (7 + b) (by omega) (by omega), y2 (14 + b) (by omega) (by omega), n7 b b0 (by omega), n7 (9 + b) (by omega) (by omega), n7 (16 + b) (by omega) (by omega)]
        rw [if_neg (by omega), if_neg (by omega), if_neg (by omega), if_neg (by omega), if_neg (by omega), if_neg (by omega)]
        exact ⟨rfl, rfl, rfl⟩
      · rw [eR] at r1
        rw [y2 (21 + r) (by omega) (by omega), n7 (23 + r) (by omega) (by omega), if_pos (by omega), if_pos (by omega)]
      · rw [g7, y2 27 (by omega) (by omega), if_neg (by omega)]
      · rw [g8, y2 28 (by omega) (by omega), if_neg (by omega)]
      · rw [g29, y2 29 (by omega) (by omega), if_neg (by omega)]
      · rw [g30, y2 30 (by omega) (by omega), if_neg (by omega)]
      · rw [g31, y2 31 (by omega) (by omega), if_neg (by omega)]
      · rw [y2 (7 + b) (by omega) (by omega), if_neg (by omega)]
      · have ht := (hE.2.2.2.2.2.1 b b0 b1).1
        rw [eB] at b1
        rw [n7 b b0 (by omega), n7 (9 + b) (by omega) (by omega), n7 (16 + b) (by omega) (by omega)]
        rw [if_neg (by omega), if_neg (by omega), if_neg (by omega)]
        omega
      · rw [eR] at r1
        rw [n7 (23 + r) (by omega) (by omega), if_pos (by omega)]
        omega
      · rw [g7, bt_0 b0 (by omega)] at hb
        cases hb
      · rw [y7]
        exact bt_0 (by omega) (by omega)
      · rw [y11, bt_0 i0 (by omega)]
        refine ⟨?_, fun h => by cases h⟩
        rcases (by omega : i = 0 ∨ i = 1) with rfl | rfl
        · exact z8
        · exact z9
