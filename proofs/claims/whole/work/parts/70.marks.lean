/-! marks: sets of bars as longs -/
theorem i64_n (n : Nat) : i64 (n : Int) = Int64.ofNat n := by
  unfold i64
  exact Int64.ofInt_eq_ofNat
theorem bv64_and (a b : Nat) : BitVec.ofNat 64 a &&& BitVec.ofNat 64 b = BitVec.ofNat 64 (a &&& b) := by
  apply BitVec.eq_of_getLsbD_eq
  intro i hi
  simp [BitVec.getLsbD_ofNat, hi]
theorem bv64_or (a b : Nat) : BitVec.ofNat 64 a ||| BitVec.ofNat 64 b = BitVec.ofNat 64 (a ||| b) := by
  apply BitVec.eq_of_getLsbD_eq
  intro i hi
  simp [BitVec.getLsbD_ofNat, hi]
theorem lland_n {a b : Nat} (ha : a < 2 ^ 60) (hb : b < 2 ^ 60) : lland (a : Int) (b : Int) = ((a &&& b : Nat) : Int) := by
  have h := Nat.and_le_left (n := a) (m := b)
  unfold lland
  rw [i64_n, i64_n]
  have : Int64.ofNat a &&& Int64.ofNat b = Int64.ofNat (a &&& b) := Int64.toBitVec_inj.mp (bv64_and a b)
  rw [this, ← i64_n, i64_toInt (by omega) (by omega)]
theorem llor_n {a b : Nat} (ha : a < 2 ^ 60) (hb : b < 2 ^ 60) : llor (a : Int) (b : Int) = ((a ||| b : Nat) : Int) := by
  have h := Nat.or_lt_two_pow ha hb
  unfold llor
  rw [i64_n, i64_n]
  have : Int64.ofNat a ||| Int64.ofNat b = Int64.ofNat (a ||| b) := Int64.toBitVec_inj.mp (bv64_or a b)
  rw [this, ← i64_n, i64_toInt (by omega) (by omega)]
theorem shl64_n : ∀ k : Fin 60, llshl 1 (k.val : Int) = ((2 ^ k.val : Nat) : Int) := by decide +kernel
theorem r_lland (x y : Int) : -9223372036854775808 ≤ lland x y ∧ lland x y ≤ 9223372036854775807 := ⟨Int64.le_toInt _, by have := Int64.toInt_lt (i64 x &&& i64 y); unfold lland; omega⟩
/-- the bars, of the next sixty, at which a box that stands at z comes to its catch -/
def Mk (f : Nat → Int → Int) (b z v : Int) : Prop := ∃ n : Nat, v = (n : Int) ∧ n < 2 ^ 60 ∧ ∀ k : Nat, k < 60 → n.testBit k = catz f b (z + ((k : Int) + 1))
theorem catz_gap {f : Nat → Int → Int} {b z d : Int} (hz : 0 ≤ z) (h : catz f b z = true) (d0 : 0 < d) (d1 : d < f 1 b) : catz f b (z + d) = false := by
  rw [catz_e hz] at h
  have h := of_decide_eq_true h
  rw [catz_e (by omega), decide_eq_false_iff_not]
  intro q
  have hq := Int.emod_eq_emod_iff_emod_sub_eq_zero.mp (q.trans h.symm)
  rw [show z + d - z = d by omega, Int.emod_eq_of_lt (by omega) d1] at hq
  omega
theorem catz_step {f : Nat → Int → Int} {b z : Int} (hz : 0 ≤ z) (ht : 0 ≤ f 1 b) (h : catz f b z = true) : catz f b (z + f 1 b) = true := by
  rw [catz_e hz] at h
  rw [catz_e (by omega), Int.add_emod_right]
  exact h
theorem k_catchesWithin {l : Launch} {X : Cx} {Q : Qt} {M : Me} {f : Nat → Int → Int} {b z : Int} (hS : SimE M.1 f) (hE : OkE f) (b0 : 0 ≤ b) (b1 : b < f 0 1) (hz : 0 ≤ z ∧ z ≤ 1000000) (hq : ∀ v, Mk f b z v → Q (some (vL v)) M) : TM l X shC 2 mX6_catchesWithin [vR 10, vI b, vI z, vI 60] M Q := by
  have hB := hE.2.1
  have tb := hE.2.2.2.2.2.1 b b0 b1
  have et := (hS.2.2.2.1 b b0 b1).1
  have sp := nxz_spec hE b0 b1 hz.1
  have L : ∀ (m : Nat) (n : Int) (N : Nat), 61 - n ≤ m → 1 ≤ n → n ≤ 130 → N < 2 ^ 60 → catz f b (z + n) = true → (∀ k : Nat, k < 60 → N.testBit k = (catz f b (z + ((k : Int) + 1)) && decide ((k : Int) + 1 < n))) → Tf l X shC 2 mX6_catchesWithin Q 23 [none, none, none, some (vI 60), some (vL (N : Int)), none, some (vI (f 1 b)), some (vI n)] [] M := by
    intro m
    induction m with
    | zero =>
      intro n N e0 e1 e2 e3 e4 e5
      (first | refine BX6_catchesWithin_0 ?_ | refine BX6_catchesWithin_21 ?_ | refine BX6_catchesWithin_23 ?_ | refine BX6_catchesWithin_50 ?_)
      dsimp only [bX6_catchesWithin_0, bX6_catchesWithin_21, bX6_catchesWithin_23, bX6_catchesWithin_50, o_add, o_ald, o_cgt, o_gf, o_ial, o_ic, o_ild, o_ist, o_lc, o_lld, o_lor, o_lret, o_lshl, o_lst, o_max, o_sub, o_v2, tk, lget, lput, lkill, lmask, ol, flC_0_0, flC_0_1, flC_0_2, flC_0_3, flC_0_4, flC_0_5, flC_0_6, flC_0_7, flC_0_8, flC_0_9, flC_0_10, flC_1_0, flC_1_1, flC_1_2, flC_1_3, flC_1_4, flC_1_5, flC_1_6, flC_1_7, flC_2_0, flC_2_1, flC_2_2, flC_2_3, flC_2_4, flC_2_5, flC_2_6, flC_2_7, flC_2_8, arC_3, arC_4, arC_5, arC_6, arC_7, arC_8, arC_9, flC_10_0, flC_10_1, flC_10_2, flC_10_3, flC_10_4, flC_10_5, flC_10_6, flC_10_7, flC_10_8, arC_11, arC_12, arC_13, arC_14, arC_15, arC_16, flC_17_0, arC_18, flC_19_0, flC_19_1, flC_19_2, arC_20, flC_21_0, flC_21_1, flC_21_2, arC_22, arC_23, flC_24_0, flC_24_1, flC_24_2, arC_25, flC_26_0, flC_26_1, flC_26_2, arC_27, arC_28, flC_29_0, arC_30, flC_31_0, flC_31_1, arC_32, arC_33, arC_34]
      try simp only [up, upL, rp, sf, cpy, Nat.reduceEqDiff, reduceIte, Int.reduceNeg, Int.reduceLE, Int.reduceLT, Int.reduceEq, Int.reduceAdd, Int.reduceSub, Int.reduceMul, ne_eq, not_true_eq_false, not_false_eq_true, true_and, and_true, and_self, false_implies, true_implies, implies_true, forall_const, Nat.reduceAdd, Int.add_zero, Int.zero_add, true_or, or_true, false_or, or_false, List.length_nil, List.length_cons]
      refine ⟨by omega, fun h => ?_, fun h => absurd h (by omega)⟩
      (first | refine BX6_catchesWithin_0 ?_ | refine BX6_catchesWithin_21 ?_ | refine BX6_catchesWithin_23 ?_ | refine BX6_catchesWithin_50 ?_)
      dsimp only [bX6_catchesWithin_0, bX6_catchesWithin_21, bX6_catchesWithin_23, bX6_catchesWithin_50, o_add, o_ald, o_cgt, o_gf, o_ial, o_ic, o_ild, o_ist, o_lc, o_lld, o_lor, o_lret, o_lshl, o_lst, o_max, o_sub, o_v2, tk, lget, lput, lkill, lmask, ol, flC_0_0, flC_0_1, flC_0_2, flC_0_3, flC_0_4, flC_0_5, flC_0_6, flC_0_7, flC_0_8, flC_0_9, flC_0_10, flC_1_0, flC_1_1, flC_1_2, flC_1_3, flC_1_4, flC_1_5, flC_1_6, flC_1_7, flC_2_0, flC_2_1, flC_2_2, flC_2_3, flC_2_4, flC_2_5, flC_2_6, flC_2_7, flC_2_8, arC_3, arC_4, arC_5, arC_6, arC_7, arC_8, arC_9, flC_10_0, flC_10_1, flC_10_2, flC_10_3, flC_10_4, flC_10_5, flC_10_6, flC_10_7, flC_10_8, arC_11, arC_12, arC_13, arC_14, arC_15, arC_16, flC_17_0, arC_18, flC_19_0, flC_19_1, flC_19_2, arC_20, flC_21_0, flC_21_1, flC_21_2, arC_22, arC_23, flC_24_0, flC_24_1, flC_24_2, arC_25, flC_26_0, flC_26_1, flC_26_2, arC_27, arC_28, flC_29_0, arC_30, flC_31_0, flC_31_1, arC_32, arC_33, arC_34]
      try simp only [up, upL, rp, sf, cpy, Nat.reduceEqDiff, reduceIte, Int.reduceNeg, Int.reduceLE, Int.reduceLT, Int.reduceEq, Int.reduceAdd, Int.reduceSub, Int.reduceMul, ne_eq, not_true_eq_false, not_false_eq_true, true_and, and_true, and_self, false_implies, true_implies, implies_true, forall_const, Nat.reduceAdd, Int.add_zero, Int.zero_add, true_or, or_true, false_or, or_false, List.length_nil, List.length_cons]
      refine hq _ ⟨N, rfl, e3, fun k hk => ?_⟩
      rw [e5 k hk, decide_eq_true (by omega), Bool.and_true]
    | succ m ih =>
      intro n N e0 e1 e2 e3 e4 e5
      (first | refine BX6_catchesWithin_0 ?_ | refine BX6_catchesWithin_21 ?_ | refine BX6_catchesWithin_23 ?_ | refine BX6_catchesWithin_50 ?_)
      dsimp only [bX6_catchesWithin_0, bX6_catchesWithin_21, bX6_catchesWithin_23, bX6_catchesWithin_50, o_add, o_ald, o_cgt, o_gf, o_ial, o_ic, o_ild, o_ist, o_lc, o_lld, o_lor, o_lret, o_lshl, o_lst, o_max, o_sub, o_v2, tk, lget, lput, lkill, lmask, ol, flC_0_0, flC_0_1, flC_0_2, flC_0_3, flC_0_4, flC_0_5, flC_0_6, flC_0_7, flC_0_8, flC_0_9, flC_0_10, flC_1_0, flC_1_1, flC_1_2, flC_1_3, flC_1_4, flC_1_5, flC_1_6, flC_1_7, flC_2_0, flC_2_1, flC_2_2, flC_2_3, flC_2_4, flC_2_5, flC_2_6, flC_2_7, flC_2_8, arC_3, arC_4, arC_5, arC_6, arC_7, arC_8, arC_9, flC_10_0, flC_10_1, flC_10_2, flC_10_3, flC_10_4, flC_10_5, flC_10_6, flC_10_7, flC_10_8, arC_11, arC_12, arC_13, arC_14, arC_15, arC_16, flC_17_0, arC_18, flC_19_0, flC_19_1, flC_19_2, arC_20, flC_21_0, flC_21_1, flC_21_2, arC_22, arC_23, flC_24_0, flC_24_1, flC_24_2, arC_25, flC_26_0, flC_26_1, flC_26_2, arC_27, arC_28, flC_29_0, arC_30, flC_31_0, flC_31_1, arC_32, arC_33, arC_34]
      try simp only [up, upL, rp, sf, cpy, Nat.reduceEqDiff, reduceIte, Int.reduceNeg, Int.reduceLE, Int.reduceLT, Int.reduceEq, Int.reduceAdd, Int.reduceSub, Int.reduceMul, ne_eq, not_true_eq_false, not_false_eq_true, true_and, and_true, and_self, false_implies, true_implies, implies_true, forall_const, Nat.reduceAdd, Int.add_zero, Int.zero_add, true_or, or_true, false_or, or_false, List.length_nil, List.length_cons]
      refine ⟨by omega, fun h => ?_, fun h => ?_⟩
      · (first | refine BX6_catchesWithin_0 ?_ | refine BX6_catchesWithin_21 ?_ | refine BX6_catchesWithin_23 ?_ | refine BX6_catchesWithin_50 ?_)
        dsimp only [bX6_catchesWithin_0, bX6_catchesWithin_21, bX6_catchesWithin_23, bX6_catchesWithin_50, o_add, o_ald, o_cgt, o_gf, o_ial, o_ic, o_ild, o_ist, o_lc, o_lld, o_lor, o_lret, o_lshl, o_lst, o_max, o_sub, o_v2, tk, lget, lput, lkill, lmask, ol, flC_0_0, flC_0_1, flC_0_2, flC_0_3, flC_0_4, flC_0_5, flC_0_6, flC_0_7, flC_0_8, flC_0_9, flC_0_10, flC_1_0, flC_1_1, flC_1_2, flC_1_3, flC_1_4, flC_1_5, flC_1_6, flC_1_7, flC_2_0, flC_2_1, flC_2_2, flC_2_3, flC_2_4, flC_2_5, flC_2_6, flC_2_7, flC_2_8, arC_3, arC_4, arC_5, arC_6, arC_7, arC_8, arC_9, flC_10_0, flC_10_1, flC_10_2, flC_10_3, flC_10_4, flC_10_5, flC_10_6, flC_10_7, flC_10_8, arC_11, arC_12, arC_13, arC_14, arC_15, arC_16, flC_17_0, arC_18, flC_19_0, flC_19_1, flC_19_2, arC_20, flC_21_0, flC_21_1, flC_21_2, arC_22, arC_23, flC_24_0, flC_24_1, flC_24_2, arC_25, flC_26_0, flC_26_1, flC_26_2, arC_27, arC_28, flC_29_0, arC_30, flC_31_0, flC_31_1, arC_32, arC_33, arC_34]
        try simp only [up, upL, rp, sf, cpy, Nat.reduceEqDiff, reduceIte, Int.reduceNeg, Int.reduceLE, Int.reduceLT, Int.reduceEq, Int.reduceAdd, Int.reduceSub, Int.reduceMul, ne_eq, not_true_eq_false, not_false_eq_true, true_and, and_true, and_self, false_implies, true_implies, implies_true, forall_const, Nat.reduceAdd, Int.add_zero, Int.zero_add, true_or, or_true, false_or, or_false, List.length_nil, List.length_cons]
        refine hq _ ⟨N, rfl, e3, fun k hk => ?_⟩
        rw [e5 k hk, decide_eq_true (by omega), Bool.and_true]
      · have hp : 2 ^ (n - 1).toNat < 2 ^ 60 := Nat.pow_lt_pow_right (by decide) (by omega)
        have es : llshl 1 (n - 1) = ((2 ^ (n - 1).toNat : Nat) : Int) := by
          have := shl64_n ⟨(n - 1).toNat, by omega⟩
          dsimp only at this
          rw [show (((n - 1).toNat : Nat) : Int) = n - 1 by omega] at this
          exact this
        rw [es, llor_n e3 hp]
        refine ih (n + f 1 b) _ (by omega) (by omega) (by omega) (Nat.or_lt_two_pow e3 hp) ?_ (fun k hk => ?_)
        · rw [show z + (n + f 1 b) = z + n + f 1 b by omega]
          exact catz_step (by omega) (by omega) e4
        · rw [Nat.testBit_or, Nat.testBit_two_pow, e5 k hk]
          by_cases hk1 : (k : Int) + 1 < n
          · rw [decide_eq_true hk1, decide_eq_false (show ¬ (n - 1).toNat = k by omega), decide_eq_true (show (k : Int) + 1 < n + f 1 b by omega)]
            simp
          · rw [decide_eq_false hk1]
            by_cases hk2 : (k : Int) + 1 = n
            · rw [decide_eq_true (show (n - 1).toNat = k by omega), decide_eq_true (show (k : Int) + 1 < n + f 1 b by omega), hk2, e4]
              rfl
            · rw [decide_eq_false (show ¬ (n - 1).toNat = k by omega)]
              by_cases hk3 : (k : Int) + 1 < n + f 1 b
              · have := catz_gap (d := (k : Int) + 1 - n) (show 0 ≤ z + n by omega) e4 (by omega) (by omega)
                rw [show z + n + ((k : Int) + 1 - n) = z + ((k : Int) + 1) by omega] at this
                rw [this]
                rfl
              · rw [decide_eq_false hk3]
                simp
  refine EX6_catchesWithin rfl ?_
  (first | refine BX6_catchesWithin_0 ?_ | refine BX6_catchesWithin_21 ?_ | refine BX6_catchesWithin_23 ?_ | refine BX6_catchesWithin_50 ?_)
  dsimp only [bX6_catchesWithin_0, bX6_catchesWithin_21, bX6_catchesWithin_23, bX6_catchesWithin_50, o_add, o_ald, o_cgt, o_gf, o_ial, o_ic, o_ild, o_ist, o_lc, o_lld, o_lor, o_lret, o_lshl, o_lst, o_max, o_sub, o_v2, tk, lget, lput, lkill, lmask, ol, lent, flC_0_0, flC_0_1, flC_0_2, flC_0_3, flC_0_4, flC_0_5, flC_0_6, flC_0_7, flC_0_8, flC_0_9, flC_0_10, flC_1_0, flC_1_1, flC_1_2, flC_1_3, flC_1_4, flC_1_5, flC_1_6, flC_1_7, flC_2_0, flC_2_1, flC_2_2, flC_2_3, flC_2_4, flC_2_5, flC_2_6, flC_2_7, flC_2_8, arC_3, arC_4, arC_5, arC_6, arC_7, arC_8, arC_9, flC_10_0, flC_10_1, flC_10_2, flC_10_3, flC_10_4, flC_10_5, flC_10_6, flC_10_7, flC_10_8, arC_11, arC_12, arC_13, arC_14, arC_15, arC_16, flC_17_0, arC_18, flC_19_0, flC_19_1, flC_19_2, arC_20, flC_21_0, flC_21_1, flC_21_2, arC_22, arC_23, flC_24_0, flC_24_1, flC_24_2, arC_25, flC_26_0, flC_26_1, flC_26_2, arC_27, arC_28, flC_29_0, arC_30, flC_31_0, flC_31_1, arC_32, arC_33, arC_34]
  try simp only [up, upL, rp, sf, cpy, Nat.reduceEqDiff, reduceIte, Int.reduceNeg, Int.reduceLE, Int.reduceLT, Int.reduceEq, Int.reduceAdd, Int.reduceSub, Int.reduceMul, ne_eq, not_true_eq_false, not_false_eq_true, true_and, and_true, and_self, false_implies, true_implies, implies_true, forall_const, Nat.reduceAdd, Int.add_zero, Int.zero_add, true_or, or_true, false_or, or_false, List.length_nil, List.length_cons]
  rw [et, if_neg (show ¬ f 1 b < 1 by omega)]
  refine ⟨by omega, by omega, rfl, rfl, k_nextCatch hS hE b0 b1 hz ?_⟩
  (first | refine BX6_catchesWithin_0 ?_ | refine BX6_catchesWithin_21 ?_ | refine BX6_catchesWithin_23 ?_ | refine BX6_catchesWithin_50 ?_)
  dsimp only [bX6_catchesWithin_0, bX6_catchesWithin_21, bX6_catchesWithin_23, bX6_catchesWithin_50, o_add, o_ald, o_cgt, o_gf, o_ial, o_ic, o_ild, o_ist, o_lc, o_lld, o_lor, o_lret, o_lshl, o_lst, o_max, o_sub, o_v2, tk, lget, lput, lkill, lmask, ol, flC_0_0, flC_0_1, flC_0_2, flC_0_3, flC_0_4, flC_0_5, flC_0_6, flC_0_7, flC_0_8, flC_0_9, flC_0_10, flC_1_0, flC_1_1, flC_1_2, flC_1_3, flC_1_4, flC_1_5, flC_1_6, flC_1_7, flC_2_0, flC_2_1, flC_2_2, flC_2_3, flC_2_4, flC_2_5, flC_2_6, flC_2_7, flC_2_8, arC_3, arC_4, arC_5, arC_6, arC_7, arC_8, arC_9, flC_10_0, flC_10_1, flC_10_2, flC_10_3, flC_10_4, flC_10_5, flC_10_6, flC_10_7, flC_10_8, arC_11, arC_12, arC_13, arC_14, arC_15, arC_16, flC_17_0, arC_18, flC_19_0, flC_19_1, flC_19_2, arC_20, flC_21_0, flC_21_1, flC_21_2, arC_22, arC_23, flC_24_0, flC_24_1, flC_24_2, arC_25, flC_26_0, flC_26_1, flC_26_2, arC_27, arC_28, flC_29_0, arC_30, flC_31_0, flC_31_1, arC_32, arC_33, arC_34]
  try simp only [up, upL, rp, sf, cpy, Nat.reduceEqDiff, reduceIte, Int.reduceNeg, Int.reduceLE, Int.reduceLT, Int.reduceEq, Int.reduceAdd, Int.reduceSub, Int.reduceMul, ne_eq, not_true_eq_false, not_false_eq_true, true_and, and_true, and_self, false_implies, true_implies, implies_true, forall_const, Nat.reduceAdd, Int.add_zero, Int.zero_add, true_or, or_true, false_or, or_false, List.length_nil, List.length_cons]
  exact L 61 (nxz f b z) 0 (by omega) (by omega) (by omega) (by decide) sp.2.1 (fun k hk => by
    rw [Nat.zero_testBit]
    by_cases h : (k : Int) + 1 < nxz f b z
    · rw [sp.2.2 ((k : Int) + 1) (by omega) h]
      rfl
    · rw [decide_eq_false h, Bool.and_false])
theorem one2C : one2 shC 34 := by
  have h : ∀ q ∈ shC.zipIdx, q.2 ≠ 34 → (match q.1 with
    | .inl (a, _) => decide (a < 2)
    | .inr _ => true) = true := by decide +kernel
  intro k s hk hs a b e
  have := h (s, k) (List.mem_zipIdx_iff_getElem?.mpr hs) hk
  subst e
  simpa using this
theorem bsum_nn (s : Int) : ∀ (j : Nat) (k : Int), 0 ≤ bsum s j k ∧ bsum s j k ≤ j
  | 0, _ => by
    show (0 : Int) ≤ 0 ∧ (0 : Int) ≤ 0
    omega
  | j + 1, k => by
    have h1 := bsum_nn s j (k + 1)
    have h2 := iand_1 (ishr s k)
    show 0 ≤ iand (ishr s k) 1 + bsum s j (k + 1) ∧ iand (ishr s k) 1 + bsum s j (k + 1) ≤ ((j + 1 : Nat) : Int)
    omega
theorem bsum_t {s k : Int} {j : Nat} (h : bt s k = true) : bsum s (j + 1) k = 1 + bsum s j (k + 1) := by
  unfold bt at h
  show iand (ishr s k) 1 + bsum s j (k + 1) = _
  rw [of_decide_eq_true h]
theorem bsum_f {s k : Int} {j : Nat} (h : bt s k = false) : bsum s (j + 1) k = bsum s j (k + 1) := by
  unfold bt at h
  have h := of_decide_eq_false h
  have h2 := iand_1 (ishr s k)
  show iand (ishr s k) 1 + bsum s j (k + 1) = _
  omega
theorem bsum_lt {s : Int} : ∀ (i j : Nat) (c : Int), bt s c = true → bsum s j (c + i + 1) + 1 ≤ bsum s (i + 1 + j) c
  | 0, j, c, h => by
    rw [show 0 + 1 + j = j + 1 by omega, bsum_t h, show c + ((0 : Nat) : Int) + 1 = c + 1 by omega]
    omega
  | i + 1, j, c, h => by
    rw [show i + 1 + 1 + j = (i + 1 + j) + 1 by omega, bsum_t h]
    have : ∀ (i j : Nat) (c : Int), bsum s j (c + i) ≤ bsum s (i + j) c := by
      intro i
      induction i with
      | zero =>
        intro j c
        rw [show c + ((0 : Nat) : Int) = c by omega, Nat.zero_add]
        omega
      | succ i ih =>
        intro j c
        have h1 := ih j (c + 1)
        have h2 := iand_1 (ishr s c)
        rw [show i + 1 + j = (i + j) + 1 by omega]
        show bsum s j (c + ((i + 1 : Nat) : Int)) ≤ iand (ishr s c) 1 + bsum s (i + j) (c + 1)
        rw [show c + ((i + 1 : Nat) : Int) = c + 1 + (i : Int) by omega]
        omega
    have h3 := this (i + 1) j (c + 1)
    rw [show c + 1 + ((i + 1 : Nat) : Int) = c + ((i + 1 : Nat) : Int) + 1 by omega] at h3
    omega
theorem bsum_0 {s : Int} : ∀ (j : Nat) (k : Int), bsum s j k = 0 → ∀ c, k ≤ c → c < k + j → bt s c = false
  | 0, k, _, c, h1, h2 => by omega
  | j + 1, k, h, c, h1, h2 => by
    have n1 := bsum_nn s j (k + 1)
    cases hb : bt s k with
    | true =>
      rw [bsum_t hb] at h
      omega
    | false =>
      rw [bsum_f hb] at h
      by_cases hc : c = k
      · rw [hc]
        exact hb
      · exact bsum_0 j (k + 1) h c (by omega) (by omega)
theorem k_markCatches {l : Launch} {X : Cx} {Q : Qt} {C f : Nat → Int → Int} {w : Int → Int} {s n : Int} (hS : SimE C f) (hE : OkE f) (hN : SimN f (C 18) (f 7)) (hO : OkR f (f 7)) (hn : n = bsum s (f 0 1).toNat 0) (hn1 : n ≤ 4) (hq : ∀ w' : Int → Int, (∀ c, 0 ≤ c → c < f 0 1 → bt s c = true → ∀ t, 0 ≤ t → t < 10 → Mk f c (f 7 c + t) (w' ((bsum s (f 0 1 - c).toNat c - 1) * 10 + t))) → Q none (C, w')) : TM l X shC 3 mX9_markCatches [vR 0, vI s, vI n] (C, w) Q := by
  have hB := hE.2.1
  have eB := hS.2.1
  have Li : ∀ (b row : Int) (w0 : Int → Int), 0 ≤ b → b < f 0 1 → 0 ≤ row → row < 4 → (∀ w' : Int → Int, (∀ t, 0 ≤ t → t < 10 → Mk f b (f 7 b + t) (w' (row * 10 + t))) → (∀ i, ¬ (row * 10 ≤ i ∧ i < row * 10 + 10) → w' i = w0 i) → Tf l X shC 3 mX9_markCatches Q 84 [some (vR 0), some (vI s), none, some (vI row), some (vI b), none] [] (C, w')) → ∀ (j : Nat) (t : Int) (w1 : Int → Int), t + j = 10 → 0 ≤ t → (∀ t', 0 ≤ t' → t' < t → Mk f b (f 7 b + t') (w1 (row * 10 + t'))) → (∀ i, ¬ (row * 10 ≤ i ∧ i < row * 10 + 10) → w1 i = w0 i) → Tf l X shC 3 mX9_markCatches Q 36 [some (vR 0), some (vI s), none, some (vI row), some (vI b), some (vI t)] [] (C, w1) := by
    intro b row w0 b0 b1 r0 r1 K j
    have gb := (hO.1 b b0 b1).1
    have tb := hE.2.2.2.2.2.1 b b0 b1
    have nb := (hN.1 b b0 b1).1
    induction j with
    | zero =>
      intro t w1 e0 e1 e2 e3
      (first | refine BX9_markCatches_0 ?_ | refine BX9_markCatches_7 ?_ | refine BX9_markCatches_36 ?_ | refine BX9_markCatches_69 ?_ | refine BX9_markCatches_77 ?_ | refine BX9_markCatches_84 ?_ | refine BX9_markCatches_87 ?_ | refine BX9_markCatches_93 ?_)
      dsimp only [bX9_markCatches_0, bX9_markCatches_7, bX9_markCatches_36, bX9_markCatches_69, bX9_markCatches_77, bX9_markCatches_84, bX9_markCatches_87, bX9_markCatches_93, o_add, o_ald, o_and, o_cge, o_cne, o_gf, o_ic, o_ild, o_inc, o_ist, o_las, o_mul, o_shr, o_sub, o_v1, o_v3, o_vret, o_zlt, tk, lget, lput, lkill, lmask, ol, flC_0_0, flC_0_1, flC_0_2, flC_0_3, flC_0_4, flC_0_5, flC_0_6, flC_0_7, flC_0_8, flC_0_9, flC_0_10, flC_1_0, flC_1_1, flC_1_2, flC_1_3, flC_1_4, flC_1_5, flC_1_6, flC_1_7, flC_2_0, flC_2_1, flC_2_2, flC_2_3, flC_2_4, flC_2_5, flC_2_6, flC_2_7, flC_2_8, arC_3, arC_4, arC_5, arC_6, arC_7, arC_8, arC_9, flC_10_0, flC_10_1, flC_10_2, flC_10_3, flC_10_4, flC_10_5, flC_10_6, flC_10_7, flC_10_8, arC_11, arC_12, arC_13, arC_14, arC_15, arC_16, flC_17_0, arC_18, flC_19_0, flC_19_1, flC_19_2, arC_20, flC_21_0, flC_21_1, flC_21_2, arC_22, arC_23, flC_24_0, flC_24_1, flC_24_2, arC_25, flC_26_0, flC_26_1, flC_26_2, arC_27, arC_28, flC_29_0, arC_30, flC_31_0, flC_31_1, arC_32, arC_33, arC_34]
      try simp only [up, upL, rp, sf, cpy, Nat.reduceEqDiff, reduceIte, Int.reduceNeg, Int.reduceLE, Int.reduceLT, Int.reduceEq, Int.reduceAdd, Int.reduceSub, Int.reduceMul, ne_eq, not_true_eq_false, not_false_eq_true, true_and, and_true, and_self, false_implies, true_implies, implies_true, forall_const, Nat.reduceAdd, Int.add_zero, Int.zero_add, true_or, or_true, false_or, or_false, List.length_nil, List.length_cons]
      exact ⟨by omega, fun h => K w1 (fun t' q0 q1 => e2 t' q0 (by omega)) e3, fun h => absurd h (by omega)⟩
    | succ j ih =>
      intro t w1 e0 e1 e2 e3
      (first | refine BX9_markCatches_0 ?_ | refine BX9_markCatches_7 ?_ | refine BX9_markCatches_36 ?_ | refine BX9_markCatches_69 ?_ | refine BX9_markCatches_77 ?_ | refine BX9_markCatches_84 ?_ | refine BX9_markCatches_87 ?_ | refine BX9_markCatches_93 ?_)
      dsimp only [bX9_markCatches_0, bX9_markCatches_7, bX9_markCatches_36, bX9_markCatches_69, bX9_markCatches_77, bX9_markCatches_84, bX9_markCatches_87, bX9_markCatches_93, o_add, o_ald, o_and, o_cge, o_cne, o_gf, o_ic, o_ild, o_inc, o_ist, o_las, o_mul, o_shr, o_sub, o_v1, o_v3, o_vret, o_zlt, tk, lget, lput, lkill, lmask, ol, flC_0_0, flC_0_1, flC_0_2, flC_0_3, flC_0_4, flC_0_5, flC_0_6, flC_0_7, flC_0_8, flC_0_9, flC_0_10, flC_1_0, flC_1_1, flC_1_2, flC_1_3, flC_1_4, flC_1_5, flC_1_6, flC_1_7, flC_2_0, flC_2_1, flC_2_2, flC_2_3, flC_2_4, flC_2_5, flC_2_6, flC_2_7, flC_2_8, arC_3, arC_4, arC_5, arC_6, arC_7, arC_8, arC_9, flC_10_0, flC_10_1, flC_10_2, flC_10_3, flC_10_4, flC_10_5, flC_10_6, flC_10_7, flC_10_8, arC_11, arC_12, arC_13, arC_14, arC_15, arC_16, flC_17_0, arC_18, flC_19_0, flC_19_1, flC_19_2, arC_20, flC_21_0, flC_21_1, flC_21_2, arC_22, arC_23, flC_24_0, flC_24_1, flC_24_2, arC_25, flC_26_0, flC_26_1, flC_26_2, arC_27, arC_28, flC_29_0, arC_30, flC_31_0, flC_31_1, arC_32, arC_33, arC_34]
      try simp only [up, upL, rp, sf, cpy, Nat.reduceEqDiff, reduceIte, Int.reduceNeg, Int.reduceLE, Int.reduceLT, Int.reduceEq, Int.reduceAdd, Int.reduceSub, Int.reduceMul, ne_eq, not_true_eq_false, not_false_eq_true, true_and, and_true, and_self, false_implies, true_implies, implies_true, forall_const, Nat.reduceAdd, Int.add_zero, Int.zero_add, true_or, or_true, false_or, or_false, List.length_nil, List.length_cons]
      refine ⟨by omega, fun h => absurd h (by omega), fun h => ⟨rfl, k_at b0 (by omega) ?_⟩⟩
      (first | refine BX9_markCatches_0 ?_ | refine BX9_markCatches_7 ?_ | refine BX9_markCatches_36 ?_ | refine BX9_markCatches_69 ?_ | refine BX9_markCatches_77 ?_ | refine BX9_markCatches_84 ?_ | refine BX9_markCatches_87 ?_ | refine BX9_markCatches_93 ?_)
      dsimp only [bX9_markCatches_0, bX9_markCatches_7, bX9_markCatches_36, bX9_markCatches_69, bX9_markCatches_77, bX9_markCatches_84, bX9_markCatches_87, bX9_markCatches_93, o_add, o_ald, o_and, o_cge, o_cne, o_gf, o_ic, o_ild, o_inc, o_ist, o_las, o_mul, o_shr, o_sub, o_v1, o_v3, o_vret, o_zlt, tk, lget, lput, lkill, lmask, ol, flC_0_0, flC_0_1, flC_0_2, flC_0_3, flC_0_4, flC_0_5, flC_0_6, flC_0_7, flC_0_8, flC_0_9, flC_0_10, flC_1_0, flC_1_1, flC_1_2, flC_1_3, flC_1_4, flC_1_5, flC_1_6, flC_1_7, flC_2_0, flC_2_1, flC_2_2, flC_2_3, flC_2_4, flC_2_5, flC_2_6, flC_2_7, flC_2_8, arC_3, arC_4, arC_5, arC_6, arC_7, arC_8, arC_9, flC_10_0, flC_10_1, flC_10_2, flC_10_3, flC_10_4, flC_10_5, flC_10_6, flC_10_7, flC_10_8, arC_11, arC_12, arC_13, arC_14, arC_15, arC_16, flC_17_0, arC_18, flC_19_0, flC_19_1, flC_19_2, arC_20, flC_21_0, flC_21_1, flC_21_2, arC_22, arC_23, flC_24_0, flC_24_1, flC_24_2, arC_25, flC_26_0, flC_26_1, flC_26_2, arC_27, arC_28, flC_29_0, arC_30, flC_31_0, flC_31_1, arC_32, arC_33, arC_34]
      try simp only [up, upL, rp, sf, cpy, Nat.reduceEqDiff, reduceIte, Int.reduceNeg, Int.reduceLE, Int.reduceLT, Int.reduceEq, Int.reduceAdd, Int.reduceSub, Int.reduceMul, ne_eq, not_true_eq_false, not_false_eq_true, true_and, and_true, and_self, false_implies, true_implies, implies_true, forall_const, Nat.reduceAdd, Int.add_zero, Int.zero_add, true_or, or_true, false_or, or_false, List.length_nil, List.length_cons]
      rw [nb]
      refine ⟨rfl, k_catchesWithin hS hE b0 b1 (by omega) (fun v hv => ?_)⟩
      (first | refine BX9_markCatches_0 ?_ | refine BX9_markCatches_7 ?_ | refine BX9_markCatches_36 ?_ | refine BX9_markCatches_69 ?_ | refine BX9_markCatches_77 ?_ | refine BX9_markCatches_84 ?_ | refine BX9_markCatches_87 ?_ | refine BX9_markCatches_93 ?_)
      dsimp only [bX9_markCatches_0, bX9_markCatches_7, bX9_markCatches_36, bX9_markCatches_69, bX9_markCatches_77, bX9_markCatches_84, bX9_markCatches_87, bX9_markCatches_93, o_add, o_ald, o_and, o_cge, o_cne, o_gf, o_ic, o_ild, o_inc, o_ist, o_las, o_mul, o_shr, o_sub, o_v1, o_v3, o_vret, o_zlt, tk, lget, lput, lkill, lmask, ol, flC_0_0, flC_0_1, flC_0_2, flC_0_3, flC_0_4, flC_0_5, flC_0_6, flC_0_7, flC_0_8, flC_0_9, flC_0_10, flC_1_0, flC_1_1, flC_1_2, flC_1_3, flC_1_4, flC_1_5, flC_1_6, flC_1_7, flC_2_0, flC_2_1, flC_2_2, flC_2_3, flC_2_4, flC_2_5, flC_2_6, flC_2_7, flC_2_8, arC_3, arC_4, arC_5, arC_6, arC_7, arC_8, arC_9, flC_10_0, flC_10_1, flC_10_2, flC_10_3, flC_10_4, flC_10_5, flC_10_6, flC_10_7, flC_10_8, arC_11, arC_12, arC_13, arC_14, arC_15, arC_16, flC_17_0, arC_18, flC_19_0, flC_19_1, flC_19_2, arC_20, flC_21_0, flC_21_1, flC_21_2, arC_22, arC_23, flC_24_0, flC_24_1, flC_24_2, arC_25, flC_26_0, flC_26_1, flC_26_2, arC_27, arC_28, flC_29_0, arC_30, flC_31_0, flC_31_1, arC_32, arC_33, arC_34]
      try simp only [up, upL, rp, sf, cpy, Nat.reduceEqDiff, reduceIte, Int.reduceNeg, Int.reduceLE, Int.reduceLT, Int.reduceEq, Int.reduceAdd, Int.reduceSub, Int.reduceMul, ne_eq, not_true_eq_false, not_false_eq_true, true_and, and_true, and_self, false_implies, true_implies, implies_true, forall_const, Nat.reduceAdd, Int.add_zero, Int.zero_add, true_or, or_true, false_or, or_false, List.length_nil, List.length_cons]
      refine ⟨by omega, one2C, ih (t + 1) _ (by omega) (by omega) (fun t' q0 q1 => ?_) (fun i hi => ?_)⟩
      · unfold upL
        by_cases ht : t' = t
        · rw [if_pos (by rw [ht]), ht]
          exact hv
        · rw [if_neg (by omega)]
          exact e2 t' q0 (by omega)
      · unfold upL
        rw [if_neg (by omega)]
        exact e3 i hi
  have L : ∀ (j : Nat) (b row : Int) (w1 : Int → Int), b + j = f 0 1 → 0 ≤ b → row + 1 = bsum s j b → row < 4 → (∀ c, 0 ≤ c → c < b → bt s c = true → ∀ t, 0 ≤ t → t < 10 → Mk f c (f 7 c + t) (w1 ((bsum s (f 0 1 - c).toNat c - 1) * 10 + t))) → Tf l X shC 3 mX9_markCatches Q 7 [some (vR 0), some (vI s), none, some (vI row), some (vI b), none] [] (C, w1) := by
    intro j
    induction j with
    | zero =>
      intro b row w1 e0 e1 e2 e3 e4
      (first | refine BX9_markCatches_0 ?_ | refine BX9_markCatches_7 ?_ | refine BX9_markCatches_36 ?_ | refine BX9_markCatches_69 ?_ | refine BX9_markCatches_77 ?_ | refine BX9_markCatches_84 ?_ | refine BX9_markCatches_87 ?_ | refine BX9_markCatches_93 ?_)
      dsimp only [bX9_markCatches_0, bX9_markCatches_7, bX9_markCatches_36, bX9_markCatches_69, bX9_markCatches_77, bX9_markCatches_84, bX9_markCatches_87, bX9_markCatches_93, o_add, o_ald, o_and, o_cge, o_cne, o_gf, o_ic, o_ild, o_inc, o_ist, o_las, o_mul, o_shr, o_sub, o_v1, o_v3, o_vret, o_zlt, tk, lget, lput, lkill, lmask, ol, flC_0_0, flC_0_1, flC_0_2, flC_0_3, flC_0_4, flC_0_5, flC_0_6, flC_0_7, flC_0_8, flC_0_9, flC_0_10, flC_1_0, flC_1_1, flC_1_2, flC_1_3, flC_1_4, flC_1_5, flC_1_6, flC_1_7, flC_2_0, flC_2_1, flC_2_2, flC_2_3, flC_2_4, flC_2_5, flC_2_6, flC_2_7, flC_2_8, arC_3, arC_4, arC_5, arC_6, arC_7, arC_8, arC_9, flC_10_0, flC_10_1, flC_10_2, flC_10_3, flC_10_4, flC_10_5, flC_10_6, flC_10_7, flC_10_8, arC_11, arC_12, arC_13, arC_14, arC_15, arC_16, flC_17_0, arC_18, flC_19_0, flC_19_1, flC_19_2, arC_20, flC_21_0, flC_21_1, flC_21_2, arC_22, arC_23, flC_24_0, flC_24_1, flC_24_2, arC_25, flC_26_0, flC_26_1, flC_26_2, arC_27, arC_28, flC_29_0, arC_30, flC_31_0, flC_31_1, arC_32, arC_33, arC_34]
      try simp only [up, upL, rp, sf, cpy, Nat.reduceEqDiff, reduceIte, Int.reduceNeg, Int.reduceLE, Int.reduceLT, Int.reduceEq, Int.reduceAdd, Int.reduceSub, Int.reduceMul, ne_eq, not_true_eq_false, not_false_eq_true, true_and, and_true, and_self, false_implies, true_implies, implies_true, forall_const, Nat.reduceAdd, Int.add_zero, Int.zero_add, true_or, or_true, false_or, or_false, List.length_nil, List.length_cons]
      rw [eB]
      refine ⟨by omega, by omega, fun h => ?_, fun h => absurd h (by omega)⟩
      (first | refine BX9_markCatches_0 ?_ | refine BX9_markCatches_7 ?_ | refine BX9_markCatches_36 ?_ | refine BX9_markCatches_69 ?_ | refine BX9_markCatches_77 ?_ | refine BX9_markCatches_84 ?_ | refine BX9_markCatches_87 ?_ | refine BX9_markCatches_93 ?_)
      dsimp only [bX9_markCatches_0, bX9_markCatches_7, bX9_markCatches_36, bX9_markCatches_69, bX9_markCatches_77, bX9_markCatches_84, bX9_markCatches_87, bX9_markCatches_93, o_add, o_ald, o_and, o_cge, o_cne, o_gf, o_ic, o_ild, o_inc, o_ist, o_las, o_mul, o_shr, o_sub, o_v1, o_v3, o_vret, o_zlt, tk, lget, lput, lkill, lmask, ol, flC_0_0, flC_0_1, flC_0_2, flC_0_3, flC_0_4, flC_0_5, flC_0_6, flC_0_7, flC_0_8, flC_0_9, flC_0_10, flC_1_0, flC_1_1, flC_1_2, flC_1_3, flC_1_4, flC_1_5, flC_1_6, flC_1_7, flC_2_0, flC_2_1, flC_2_2, flC_2_3, flC_2_4, flC_2_5, flC_2_6, flC_2_7, flC_2_8, arC_3, arC_4, arC_5, arC_6, arC_7, arC_8, arC_9, flC_10_0, flC_10_1, flC_10_2, flC_10_3, flC_10_4, flC_10_5, flC_10_6, flC_10_7, flC_10_8, arC_11, arC_12, arC_13, arC_14, arC_15, arC_16, flC_17_0, arC_18, flC_19_0, flC_19_1, flC_19_2, arC_20, flC_21_0, flC_21_1, flC_21_2, arC_22, arC_23, flC_24_0, flC_24_1, flC_24_2, arC_25, flC_26_0, flC_26_1, flC_26_2, arC_27, arC_28, flC_29_0, arC_30, flC_31_0, flC_31_1, arC_32, arC_33, arC_34]
      try simp only [up, upL, rp, sf, cpy, Nat.reduceEqDiff, reduceIte, Int.reduceNeg, Int.reduceLE, Int.reduceLT, Int.reduceEq, Int.reduceAdd, Int.reduceSub, Int.reduceMul, ne_eq, not_true_eq_false, not_false_eq_true, true_and, and_true, and_self, false_implies, true_implies, implies_true, forall_const, Nat.reduceAdd, Int.add_zero, Int.zero_add, true_or, or_true, false_or, or_false, List.length_nil, List.length_cons]
      exact hq w1 (fun c c0 c1 => e4 c c0 (by omega))
    | succ j ih =>
      intro b row w1 e0 e1 e2 e3 e4
      have nn := bsum_nn s (j + 1) b
      (first | refine BX9_markCatches_0 ?_ | refine BX9_markCatches_7 ?_ | refine BX9_markCatches_36 ?_ | refine BX9_markCatches_69 ?_ | refine BX9_markCatches_77 ?_ | refine BX9_markCatches_84 ?_ | refine BX9_markCatches_87 ?_ | refine BX9_markCatches_93 ?_)
      dsimp only [bX9_markCatches_0, bX9_markCatches_7, bX9_markCatches_36, bX9_markCatches_69, bX9_markCatches_77, bX9_markCatches_84, bX9_markCatches_87, bX9_markCatches_93, o_add, o_ald, o_and, o_cge, o_cne, o_gf, o_ic, o_ild, o_inc, o_ist, o_las, o_mul, o_shr, o_sub, o_v1, o_v3, o_vret, o_zlt, tk, lget, lput, lkill, lmask, ol, flC_0_0, flC_0_1, flC_0_2, flC_0_3, flC_0_4, flC_0_5, flC_0_6, flC_0_7, flC_0_8, flC_0_9, flC_0_10, flC_1_0, flC_1_1, flC_1_2, flC_1_3, flC_1_4, flC_1_5, flC_1_6, flC_1_7, flC_2_0, flC_2_1, flC_2_2, flC_2_3, flC_2_4, flC_2_5, flC_2_6, flC_2_7, flC_2_8, arC_3, arC_4, arC_5, arC_6, arC_7, arC_8, arC_9, flC_10_0, flC_10_1, flC_10_2, flC_10_3, flC_10_4, flC_10_5, flC_10_6, flC_10_7, flC_10_8, arC_11, arC_12, arC_13, arC_14, arC_15, arC_16, flC_17_0, arC_18, flC_19_0, flC_19_1, flC_19_2, arC_20, flC_21_0, flC_21_1, flC_21_2, arC_22, arC_23, flC_24_0, flC_24_1, flC_24_2, arC_25, flC_26_0, flC_26_1, flC_26_2, arC_27, arC_28, flC_29_0, arC_30, flC_31_0, flC_31_1, arC_32, arC_33, arC_34]
      try simp only [up, upL, rp, sf, cpy, Nat.reduceEqDiff, reduceIte, Int.reduceNeg, Int.reduceLE, Int.reduceLT, Int.reduceEq, Int.reduceAdd, Int.reduceSub, Int.reduceMul, ne_eq, not_true_eq_false, not_false_eq_true, true_and, and_true, and_self, false_implies, true_implies, implies_true, forall_const, Nat.reduceAdd, Int.add_zero, Int.zero_add, true_or, or_true, false_or, or_false, List.length_nil, List.length_cons]
      rw [eB]
      refine ⟨by omega, by omega, fun h => absurd h (by omega), fun h => ⟨by omega, fun h5 => ?_, fun h5 => ⟨r_iand _ _, fun h6 => ?_, fun h6 => ?_⟩⟩⟩
      · (first | refine BX9_markCatches_0 ?_ | refine BX9_markCatches_7 ?_ | refine BX9_markCatches_36 ?_ | refine BX9_markCatches_69 ?_ | refine BX9_markCatches_77 ?_ | refine BX9_markCatches_84 ?_ | refine BX9_markCatches_87 ?_ | refine BX9_markCatches_93 ?_)
        dsimp only [bX9_markCatches_0, bX9_markCatches_7, bX9_markCatches_36, bX9_markCatches_69, bX9_markCatches_77, bX9_markCatches_84, bX9_markCatches_87, bX9_markCatches_93, o_add, o_ald, o_and, o_cge, o_cne, o_gf, o_ic, o_ild, o_inc, o_ist, o_las, o_mul, o_shr, o_sub, o_v1, o_v3, o_vret, o_zlt, tk, lget, lput, lkill, lmask, ol, flC_0_0, flC_0_1, flC_0_2, flC_0_3, flC_0_4, flC_0_5, flC_0_6, flC_0_7, flC_0_8, flC_0_9, flC_0_10, flC_1_0, flC_1_1, flC_1_2, flC_1_3, flC_1_4, flC_1_5, flC_1_6, flC_1_7, flC_2_0, flC_2_1, flC_2_2, flC_2_3, flC_2_4, flC_2_5, flC_2_6, flC_2_7, flC_2_8, arC_3, arC_4, arC_5, arC_6, arC_7, arC_8, arC_9, flC_10_0, flC_10_1, flC_10_2, flC_10_3, flC_10_4, flC_10_5, flC_10_6, flC_10_7, flC_10_8, arC_11, arC_12, arC_13, arC_14, arC_15, arC_16, flC_17_0, arC_18, flC_19_0, flC_19_1, flC_19_2, arC_20, flC_21_0, flC_21_1, flC_21_2, arC_22, arC_23, flC_24_0, flC_24_1, flC_24_2, arC_25, flC_26_0, flC_26_1, flC_26_2, arC_27, arC_28, flC_29_0, arC_30, flC_31_0, flC_31_1, arC_32, arC_33, arC_34]
        try simp only [up, upL, rp, sf, cpy, Nat.reduceEqDiff, reduceIte, Int.reduceNeg, Int.reduceLE, Int.reduceLT, Int.reduceEq, Int.reduceAdd, Int.reduceSub, Int.reduceMul, ne_eq, not_true_eq_false, not_false_eq_true, true_and, and_true, and_self, false_implies, true_implies, implies_true, forall_const, Nat.reduceAdd, Int.add_zero, Int.zero_add, true_or, or_true, false_or, or_false, List.length_nil, List.length_cons]
        refine hq w1 (fun c c0 c1 cb => ?_)
        by_cases hc : c < b
        · exact e4 c c0 hc cb
        · have := bsum_0 (s := s) (j + 1) b (by omega) c (by omega) (by omega)
          rw [this] at cb
          cases cb
      · have hb := bt_f h6
        rw [bsum_f hb] at e2
        (first | refine BX9_markCatches_0 ?_ | refine BX9_markCatches_7 ?_ | refine BX9_markCatches_36 ?_ | refine BX9_markCatches_69 ?_ | refine BX9_markCatches_77 ?_ | refine BX9_markCatches_84 ?_ | refine BX9_markCatches_87 ?_ | refine BX9_markCatches_93 ?_)
        dsimp only [bX9_markCatches_0, bX9_markCatches_7, bX9_markCatches_36, bX9_markCatches_69, bX9_markCatches_77, bX9_markCatches_84, bX9_markCatches_87, bX9_markCatches_93, o_add, o_ald, o_and, o_cge, o_cne, o_gf, o_ic, o_ild, o_inc, o_ist, o_las, o_mul, o_shr, o_sub, o_v1, o_v3, o_vret, o_zlt, tk, lget, lput, lkill, lmask, ol, flC_0_0, flC_0_1, flC_0_2, flC_0_3, flC_0_4, flC_0_5, flC_0_6, flC_0_7, flC_0_8, flC_0_9, flC_0_10, flC_1_0, flC_1_1, flC_1_2, flC_1_3, flC_1_4, flC_1_5, flC_1_6, flC_1_7, flC_2_0, flC_2_1, flC_2_2, flC_2_3, flC_2_4, flC_2_5, flC_2_6, flC_2_7, flC_2_8, arC_3, arC_4, arC_5, arC_6, arC_7, arC_8, arC_9, flC_10_0, flC_10_1, flC_10_2, flC_10_3, flC_10_4, flC_10_5, flC_10_6, flC_10_7, flC_10_8, arC_11, arC_12, arC_13, arC_14, arC_15, arC_16, flC_17_0, arC_18, flC_19_0, flC_19_1, flC_19_2, arC_20, flC_21_0, flC_21_1, flC_21_2, arC_22, arC_23, flC_24_0, flC_24_1, flC_24_2, arC_25, flC_26_0, flC_26_1, flC_26_2, arC_27, arC_28, flC_29_0, arC_30, flC_31_0, flC_31_1, arC_32, arC_33, arC_34]
        try simp only [up, upL, rp, sf, cpy, Nat.reduceEqDiff, reduceIte, Int.reduceNeg, Int.reduceLE, Int.reduceLT, Int.reduceEq, Int.reduceAdd, Int.reduceSub, Int.reduceMul, ne_eq, not_true_eq_false, not_false_eq_true, true_and, and_true, and_self, false_implies, true_implies, implies_true, forall_const, Nat.reduceAdd, Int.add_zero, Int.zero_add, true_or, or_true, false_or, or_false, List.length_nil, List.length_cons]
        refine ih (b + 1) row w1 (by omega) (by omega) e2 e3 (fun c c0 c1 cb => ?_)
        by_cases hc : c = b
        · rw [hc, hb] at cb
          cases cb
        · exact e4 c c0 (by omega) cb
      · have hb := bt_t h6
        have e2' := e2
        rw [bsum_t hb] at e2
        refine Li b row w1 e1 (by omega) h5 e3 (fun w' q1 q2 => ?_) 10 0 w1 (by omega) (by omega) (fun t' z0 z1 => by omega) (fun _ _ => rfl)
        (first | refine BX9_markCatches_0 ?_ | refine BX9_markCatches_7 ?_ | refine BX9_markCatches_36 ?_ | refine BX9_markCatches_69 ?_ | refine BX9_markCatches_77 ?_ | refine BX9_markCatches_84 ?_ | refine BX9_markCatches_87 ?_ | refine BX9_markCatches_93 ?_)
        dsimp only [bX9_markCatches_0, bX9_markCatches_7, bX9_markCatches_36, bX9_markCatches_69, bX9_markCatches_77, bX9_markCatches_84, bX9_markCatches_87, bX9_markCatches_93, o_add, o_ald, o_and, o_cge, o_cne, o_gf, o_ic, o_ild, o_inc, o_ist, o_las, o_mul, o_shr, o_sub, o_v1, o_v3, o_vret, o_zlt, tk, lget, lput, lkill, lmask, ol, flC_0_0, flC_0_1, flC_0_2, flC_0_3, flC_0_4, flC_0_5, flC_0_6, flC_0_7, flC_0_8, flC_0_9, flC_0_10, flC_1_0, flC_1_1, flC_1_2, flC_1_3, flC_1_4, flC_1_5, flC_1_6, flC_1_7, flC_2_0, flC_2_1, flC_2_2, flC_2_3, flC_2_4, flC_2_5, flC_2_6, flC_2_7, flC_2_8, arC_3, arC_4, arC_5, arC_6, arC_7, arC_8, arC_9, flC_10_0, flC_10_1, flC_10_2, flC_10_3, flC_10_4, flC_10_5, flC_10_6, flC_10_7, flC_10_8, arC_11, arC_12, arC_13, arC_14, arC_15, arC_16, flC_17_0, arC_18, flC_19_0, flC_19_1, flC_19_2, arC_20, flC_21_0, flC_21_1, flC_21_2, arC_22, arC_23, flC_24_0, flC_24_1, flC_24_2, arC_25, flC_26_0, flC_26_1, flC_26_2, arC_27, arC_28, flC_29_0, arC_30, flC_31_0, flC_31_1, arC_32, arC_33, arC_34]
        try simp only [up, upL, rp, sf, cpy, Nat.reduceEqDiff, reduceIte, Int.reduceNeg, Int.reduceLE, Int.reduceLT, Int.reduceEq, Int.reduceAdd, Int.reduceSub, Int.reduceMul, ne_eq, not_true_eq_false, not_false_eq_true, true_and, and_true, and_self, false_implies, true_implies, implies_true, forall_const, Nat.reduceAdd, Int.add_zero, Int.zero_add, true_or, or_true, false_or, or_false, List.length_nil, List.length_cons]
        (first | refine BX9_markCatches_0 ?_ | refine BX9_markCatches_7 ?_ | refine BX9_markCatches_36 ?_ | refine BX9_markCatches_69 ?_ | refine BX9_markCatches_77 ?_ | refine BX9_markCatches_84 ?_ | refine BX9_markCatches_87 ?_ | refine BX9_markCatches_93 ?_)
        dsimp only [bX9_markCatches_0, bX9_markCatches_7, bX9_markCatches_36, bX9_markCatches_69, bX9_markCatches_77, bX9_markCatches_84, bX9_markCatches_87, bX9_markCatches_93, o_add, o_ald, o_and, o_cge, o_cne, o_gf, o_ic, o_ild, o_inc, o_ist, o_las, o_mul, o_shr, o_sub, o_v1, o_v3, o_vret, o_zlt, tk, lget, lput, lkill, lmask, ol, flC_0_0, flC_0_1, flC_0_2, flC_0_3, flC_0_4, flC_0_5, flC_0_6, flC_0_7, flC_0_8, flC_0_9, flC_0_10, flC_1_0, flC_1_1, flC_1_2, flC_1_3, flC_1_4, flC_1_5, flC_1_6, flC_1_7, flC_2_0, flC_2_1, flC_2_2, flC_2_3, flC_2_4, flC_2_5, flC_2_6, flC_2_7, flC_2_8, arC_3, arC_4, arC_5, arC_6, arC_7, arC_8, arC_9, flC_10_0, flC_10_1, flC_10_2, flC_10_3, flC_10_4, flC_10_5, flC_10_6, flC_10_7, flC_10_8, arC_11, arC_12, arC_13, arC_14, arC_15, arC_16, flC_17_0, arC_18, flC_19_0, flC_19_1, flC_19_2, arC_20, flC_21_0, flC_21_1, flC_21_2, arC_22, arC_23, flC_24_0, flC_24_1, flC_24_2, arC_25, flC_26_0, flC_26_1, flC_26_2, arC_27, arC_28, flC_29_0, arC_30, flC_31_0, flC_31_1, arC_32, arC_33, arC_34]
        try simp only [up, upL, rp, sf, cpy, Nat.reduceEqDiff, reduceIte, Int.reduceNeg, Int.reduceLE, Int.reduceLT, Int.reduceEq, Int.reduceAdd, Int.reduceSub, Int.reduceMul, ne_eq, not_true_eq_false, not_false_eq_true, true_and, and_true, and_self, false_implies, true_implies, implies_true, forall_const, Nat.reduceAdd, Int.add_zero, Int.zero_add, true_or, or_true, false_or, or_false, List.length_nil, List.length_cons]
        refine ih (b + 1) (row + -1) w' (by omega) (by omega) (by omega) (by omega) (fun c c0 c1 cb t t0 t1 => ?_)
        by_cases hc : c = b
        · rw [hc, show (f 0 1 - b).toNat = j + 1 by omega, ← e2', show row + 1 - 1 = row by omega]
          exact q1 t t0 t1
        · have hl := bsum_lt (s := s) (b - c - 1).toNat (j + 1) c cb
          rw [show c + (((b - c - 1).toNat : Nat) : Int) + 1 = b by omega, show (b - c - 1).toNat + 1 + (j + 1) = (f 0 1 - c).toNat by omega, ← e2'] at hl
          rw [q2 _ (by omega)]
          exact e4 c c0 (by omega) cb t t0 t1
  refine EX9_markCatches rfl ?_
  (first | refine BX9_markCatches_0 ?_ | refine BX9_markCatches_7 ?_ | refine BX9_markCatches_36 ?_ | refine BX9_markCatches_69 ?_ | refine BX9_markCatches_77 ?_ | refine BX9_markCatches_84 ?_ | refine BX9_markCatches_87 ?_ | refine BX9_markCatches_93 ?_)
  dsimp only [bX9_markCatches_0, bX9_markCatches_7, bX9_markCatches_36, bX9_markCatches_69, bX9_markCatches_77, bX9_markCatches_84, bX9_markCatches_87, bX9_markCatches_93, o_add, o_ald, o_and, o_cge, o_cne, o_gf, o_ic, o_ild, o_inc, o_ist, o_las, o_mul, o_shr, o_sub, o_v1, o_v3, o_vret, o_zlt, tk, lget, lput, lkill, lmask, ol, lent, flC_0_0, flC_0_1, flC_0_2, flC_0_3, flC_0_4, flC_0_5, flC_0_6, flC_0_7, flC_0_8, flC_0_9, flC_0_10, flC_1_0, flC_1_1, flC_1_2, flC_1_3, flC_1_4, flC_1_5, flC_1_6, flC_1_7, flC_2_0, flC_2_1, flC_2_2, flC_2_3, flC_2_4, flC_2_5, flC_2_6, flC_2_7, flC_2_8, arC_3, arC_4, arC_5, arC_6, arC_7, arC_8, arC_9, flC_10_0, flC_10_1, flC_10_2, flC_10_3, flC_10_4, flC_10_5, flC_10_6, flC_10_7, flC_10_8, arC_11, arC_12, arC_13, arC_14, arC_15, arC_16, flC_17_0, arC_18, flC_19_0, flC_19_1, flC_19_2, arC_20, flC_21_0, flC_21_1, flC_21_2, arC_22, arC_23, flC_24_0, flC_24_1, flC_24_2, arC_25, flC_26_0, flC_26_1, flC_26_2, arC_27, arC_28, flC_29_0, arC_30, flC_31_0, flC_31_1, arC_32, arC_33, arC_34]
  try simp only [up, upL, rp, sf, cpy, Nat.reduceEqDiff, reduceIte, Int.reduceNeg, Int.reduceLE, Int.reduceLT, Int.reduceEq, Int.reduceAdd, Int.reduceSub, Int.reduceMul, ne_eq, not_true_eq_false, not_false_eq_true, true_and, and_true, and_self, false_implies, true_implies, implies_true, forall_const, Nat.reduceAdd, Int.add_zero, Int.zero_add, true_or, or_true, false_or, or_false, List.length_nil, List.length_cons]
  exact L (f 0 1).toNat 0 (n - 1) w (by omega) (by omega) (by omega) (by omega) (fun c c0 c1 => by omega)
